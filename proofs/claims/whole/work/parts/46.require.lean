def wp_X8_requireRange_10 (P : Option Value → hp_T → Prop) (X : String → hp_T → Prop) : KT :=
  i_throw "java/lang/IllegalArgumentException" X
set_option maxRecDepth 20000 in
theorem go_X8_requireRange_10 {z : zT} {P : Option Value → hp_T → Prop} {X : String → hp_T → Prop} (hz : Cx z cX8_requireRange 3 "Panelry" "requireRange" 6 1 6) (hr : Rt z none P X 1 6) : Go z 0 0 10 (wp_X8_requireRange_10 P X) := 
  s_throwW (tx := "an argument is out of range") hz hr thA (by simp [strTab]) rfl rfl rfl dX8_requireRange_10 dX8_requireRange_13 dX8_requireRange_14 dX8_requireRange_17 dX8_requireRange_20
def wp_X8_requireRange_0 (P : Option Value → hp_T → Prop) (X : String → hp_T → Prop) : KT :=
  i_iload 0 (i_iload 1 (i_iclt (wp_X8_requireRange_10 P X) (i_iload 0 (i_iload 2 (i_icle (i_vret P) (wp_X8_requireRange_10 P X))))))
set_option maxRecDepth 20000 in
theorem go_X8_requireRange_0 {z : zT} {P : Option Value → hp_T → Prop} {X : String → hp_T → Prop} (hz : Cx z cX8_requireRange 3 "Panelry" "requireRange" 6 1 6) (hr : Rt z none P X 1 6) : Go z 0 0 0 (wp_X8_requireRange_0 P X) := 
  s_iload_n hz rfl dX8_requireRange_0 (s_iload_n hz rfl dX8_requireRange_1 (s_iclt hz (tgt := 10) rfl dX8_requireRange_2 (go_X8_requireRange_10 hz hr) (s_iload_n hz rfl dX8_requireRange_5
    (s_iload_n hz rfl dX8_requireRange_6 (s_icle hz (tgt := 21) rfl dX8_requireRange_7 (s_vret hz hr rfl rfl dX8_requireRange_21) (go_X8_requireRange_10 hz hr))))))

def T_X8_requireRange : PT := fun av h P X => match av with
  | [.int v, .int b, .int e] => (True) ∧ ((b ≤ v ∧ v ≤ e → P none h) ∧ (¬ (b ≤ v ∧ v ≤ e) → X "java/lang/IllegalArgumentException" h))
  | _ => False
set_option maxRecDepth 20000 in
theorem ct_X8_requireRange : CT yX8_requireRange cX8_requireRange 3 none 6 1 6 T_X8_requireRange := by
  refine ct_ofE (by decide) (fun z av h P X hT hz hr => ?_) (fun av h P X hT => ?_)
  · unfold T_X8_requireRange at hT
    split at hT
    · refine ⟨_, go_X8_requireRange_0 hz hr, ?_⟩
      rename_i v b e
      show wp_X8_requireRange_0 P X [some (.int v), some (.int b), some (.int e)] [] h
      obtain ⟨hk, hp⟩ := hT
      obtain ⟨hp1, hp2⟩ := hp
      simp only [wp_X8_requireRange_10, wp_X8_requireRange_0, i_mmax, i_mmin, i_pushI, i_pushN, i_pushL, i_iload, i_aload, i_istore, i_astore, i_iinc, i_iadd, i_isub, i_imul, i_iand, i_ior, i_ixor, i_ishl, i_ishr, i_iushr, i_idiv, i_i2l, i_lcmp, i_dup, i_pop, i_dupx1, i_dup2, i_ifeq, i_ifne, i_iflt, i_ifge, i_ifgt, i_ifle, i_iceq, i_icne, i_iclt, i_icge, i_icgt, i_icle, i_ifnull, i_aceq, i_getI, i_getR, i_putI, i_putZ, i_putR, i_new, i_newarr, i_ald, i_lald, i_aald, i_alen, i_ast, i_zast, i_last, i_aast, i_aastL, i_cast, i_gste, i_ldcM, i_getC, i_acopy, i_dead, i_objinit, i_callV, i_callS, i_callI, i_iret, i_zret, i_aret, i_vret, i_throw, popN, pushO, lget, lset, isRf_ref, isRf_null, isRf_rf, isC1_int, isC1_ref, isC1_null, isC1_rf, true_and, and_true, List.length_cons, List.length_nil, Nat.reduceAdd, Nat.reduceLeDiff, hK_sI, hN_sI, hR_sI, hI_sI, hK_sR, hN_sR, hR_sR, hI_sR, kC_2, kC_3, kC_4, kC_5, kC_6, kC_7, kC_8, kC_9, kC_10, kC_11, kC_20, kC_21, kC_22, kC_23, i2_0, i1_1, i0_1, i1_0, bI_and, bI_0, Decidable.not_not, not_false_eq_true, not_true_eq_false, forall_const, false_implies, true_implies, hK_copy, hN_copy, hI_copy, hC_sI, hC_sR, hC_new, hK_new, hN_new, hI_new, hR_new, rf_some, rf_none, ex_ref, ex_null, ex_rf, nref_null, rf_null, Nat.reduceEqDiff, reduceCtorEq, false_and, and_false, if_false, if_true, ne_eq, kO_150, kO_151, kO_152, kO_170, kO_180, kO_190, Value.ref.injEq, exists_eq_left', false_or, hk]
      (repeat' (first | (apply And.intro) | (intro _)))
      all_goals first | exact hp1 (by clear hp1 hp2; grind) | exact hp2 (by clear hp1 hp2; grind)
    · exact hT.elim
  · unfold T_X8_requireRange at hT
    split at hT
    · exact ⟨Nat.le_of_ble_eq_true rfl, by simp [isC1_int, isC1_ref, isC1_null, isC1_rf]⟩
    · exact hT.elim
def wp_X8_requireFact_10 (P : Option Value → hp_T → Prop) (X : String → hp_T → Prop) : KT :=
  i_throw "java/lang/IndexOutOfBoundsException" X
set_option maxRecDepth 20000 in
theorem go_X8_requireFact_10 {z : zT} {P : Option Value → hp_T → Prop} {X : String → hp_T → Prop} (hz : Cx z cX8_requireFact 1 "Panelry" "requireFact" 6 1 6) (hr : Rt z none P X 1 6) : Go z 0 0 10 (wp_X8_requireFact_10 P X) := 
  s_throwW (tx := "no such fact") hz hr thI (by simp [strTab]) rfl rfl rfl dX8_requireFact_10 dX8_requireFact_13 dX8_requireFact_14 dX8_requireFact_17 dX8_requireFact_20
def wp_X8_requireFact_0 (P : Option Value → hp_T → Prop) (X : String → hp_T → Prop) : KT :=
  i_iload 0 (i_iflt (wp_X8_requireFact_10 P X) (i_iload 0 (i_pushI 9 (i_icle (i_vret P) (wp_X8_requireFact_10 P X)))))
set_option maxRecDepth 20000 in
theorem go_X8_requireFact_0 {z : zT} {P : Option Value → hp_T → Prop} {X : String → hp_T → Prop} (hz : Cx z cX8_requireFact 1 "Panelry" "requireFact" 6 1 6) (hr : Rt z none P X 1 6) : Go z 0 0 0 (wp_X8_requireFact_0 P X) := 
  s_iload_n hz rfl dX8_requireFact_0 (s_iflt hz (tgt := 10) rfl dX8_requireFact_1 (go_X8_requireFact_10 hz hr) (s_iload_n hz rfl dX8_requireFact_4 (s_bipush hz rfl dX8_requireFact_5 (s_icle hz
    (tgt := 21) rfl dX8_requireFact_7 (s_vret hz hr rfl rfl dX8_requireFact_21) (go_X8_requireFact_10 hz hr)))))

def T_X8_requireFact : PT := fun av h P X => match av with
  | [.int v] => (True) ∧ ((0 ≤ v ∧ v ≤ 9 → P none h) ∧ (¬ (0 ≤ v ∧ v ≤ 9) → X "java/lang/IndexOutOfBoundsException" h))
  | _ => False
set_option maxRecDepth 20000 in
theorem ct_X8_requireFact : CT yX8_requireFact cX8_requireFact 1 none 6 1 6 T_X8_requireFact := by
  refine ct_ofE (by decide) (fun z av h P X hT hz hr => ?_) (fun av h P X hT => ?_)
  · unfold T_X8_requireFact at hT
    split at hT
    · refine ⟨_, go_X8_requireFact_0 hz hr, ?_⟩
      rename_i v
      show wp_X8_requireFact_0 P X [some (.int v)] [] h
      obtain ⟨hk, hp⟩ := hT
      obtain ⟨hp1, hp2⟩ := hp
      simp only [wp_X8_requireFact_10, wp_X8_requireFact_0, i_mmax, i_mmin, i_pushI, i_pushN, i_pushL, i_iload, i_aload, i_istore, i_astore, i_iinc, i_iadd, i_isub, i_imul, i_iand, i_ior, i_ixor, i_ishl, i_ishr, i_iushr, i_idiv, i_i2l, i_lcmp, i_dup, i_pop, i_dupx1, i_dup2, i_ifeq, i_ifne, i_iflt, i_ifge, i_ifgt, i_ifle, i_iceq, i_icne, i_iclt, i_icge, i_icgt, i_icle, i_ifnull, i_aceq, i_getI, i_getR, i_putI, i_putZ, i_putR, i_new, i_newarr, i_ald, i_lald, i_aald, i_alen, i_ast, i_zast, i_last, i_aast, i_aastL, i_cast, i_gste, i_ldcM, i_getC, i_acopy, i_dead, i_objinit, i_callV, i_callS, i_callI, i_iret, i_zret, i_aret, i_vret, i_throw, popN, pushO, lget, lset, isRf_ref, isRf_null, isRf_rf, isC1_int, isC1_ref, isC1_null, isC1_rf, true_and, and_true, List.length_cons, List.length_nil, Nat.reduceAdd, Nat.reduceLeDiff, hK_sI, hN_sI, hR_sI, hI_sI, hK_sR, hN_sR, hR_sR, hI_sR, kC_2, kC_3, kC_4, kC_5, kC_6, kC_7, kC_8, kC_9, kC_10, kC_11, kC_20, kC_21, kC_22, kC_23, i2_0, i1_1, i0_1, i1_0, bI_and, bI_0, Decidable.not_not, not_false_eq_true, not_true_eq_false, forall_const, false_implies, true_implies, hK_copy, hN_copy, hI_copy, hC_sI, hC_sR, hC_new, hK_new, hN_new, hI_new, hR_new, rf_some, rf_none, ex_ref, ex_null, ex_rf, nref_null, rf_null, Nat.reduceEqDiff, reduceCtorEq, false_and, and_false, if_false, if_true, ne_eq, kO_150, kO_151, kO_152, kO_170, kO_180, kO_190, Value.ref.injEq, exists_eq_left', false_or, hk]
      (repeat' (first | (apply And.intro) | (intro _)))
      all_goals first | exact hp1 (by clear hp1 hp2; grind) | exact hp2 (by clear hp1 hp2; grind)
    · exact hT.elim
  · unfold T_X8_requireFact at hT
    split at hT
    · exact ⟨Nat.le_of_ble_eq_true rfl, by simp [isC1_int, isC1_ref, isC1_null, isC1_rf]⟩
    · exact hT.elim
def wp_X8_requireFigure_12 (P : Option Value → hp_T → Prop) (X : String → hp_T → Prop) : KT :=
  i_throw "java/lang/IndexOutOfBoundsException" X
set_option maxRecDepth 20000 in
theorem go_X8_requireFigure_12 {z : zT} {P : Option Value → hp_T → Prop} {X : String → hp_T → Prop} (hz : Cx z cX8_requireFigure 2 "Panelry" "requireFigure" 6 1 6) (hr : Rt z none P X 1 6) : Go z 0 0 12 (wp_X8_requireFigure_12 P X) := 
  s_throwW (tx := "no such figure") hz hr thI (by simp [strTab]) rfl rfl rfl dX8_requireFigure_12 dX8_requireFigure_15 dX8_requireFigure_16 dX8_requireFigure_19 dX8_requireFigure_22
def wp_X8_requireFigure_0 (P : Option Value → hp_T → Prop) (X : String → hp_T → Prop) : KT :=
  i_iload 1 (i_iflt (wp_X8_requireFigure_12 P X) (i_iload 1 (i_aload 0 (i_getI 10 642 (i_iclt (i_vret P) (wp_X8_requireFigure_12 P X))))))
set_option maxRecDepth 20000 in
theorem go_X8_requireFigure_0 {z : zT} {P : Option Value → hp_T → Prop} {X : String → hp_T → Prop} (hz : Cx z cX8_requireFigure 2 "Panelry" "requireFigure" 6 1 6) (hr : Rt z none P X 1 6) : Go z 0 0 0 (wp_X8_requireFigure_0 P X) := 
  s_iload_n hz rfl dX8_requireFigure_0 (s_iflt hz (tgt := 12) rfl dX8_requireFigure_1 (go_X8_requireFigure_12 hz hr) (s_iload_n hz rfl dX8_requireFigure_4 (s_aload_n hz rfl dX8_requireFigure_5
    (fg_RX8_126 hz dX8_requireFigure_6 (s_iclt hz (tgt := 23) rfl dX8_requireFigure_9 (s_vret hz hr rfl rfl dX8_requireFigure_23) (go_X8_requireFigure_12 hz hr))))))

def T_X8_requireFigure : PT := fun av h P X => match av with
  | [.ref c, .int v] => (hK h c = 10) ∧ ((0 ≤ v ∧ v < hI h 642 c 0 → P none h) ∧ (¬ (0 ≤ v ∧ v < hI h 642 c 0) → X "java/lang/IndexOutOfBoundsException" h))
  | _ => False
set_option maxRecDepth 20000 in
theorem ct_X8_requireFigure : CT yX8_requireFigure cX8_requireFigure 2 none 6 1 6 T_X8_requireFigure := by
  refine ct_ofE (by decide) (fun z av h P X hT hz hr => ?_) (fun av h P X hT => ?_)
  · unfold T_X8_requireFigure at hT
    split at hT
    · refine ⟨_, go_X8_requireFigure_0 hz hr, ?_⟩
      rename_i c v
      show wp_X8_requireFigure_0 P X [some (.ref c), some (.int v)] [] h
      obtain ⟨hk, hp⟩ := hT
      obtain ⟨hp1, hp2⟩ := hp
      simp only [wp_X8_requireFigure_12, wp_X8_requireFigure_0, i_mmax, i_mmin, i_pushI, i_pushN, i_pushL, i_iload, i_aload, i_istore, i_astore, i_iinc, i_iadd, i_isub, i_imul, i_iand, i_ior, i_ixor, i_ishl, i_ishr, i_iushr, i_idiv, i_i2l, i_lcmp, i_dup, i_pop, i_dupx1, i_dup2, i_ifeq, i_ifne, i_iflt, i_ifge, i_ifgt, i_ifle, i_iceq, i_icne, i_iclt, i_icge, i_icgt, i_icle, i_ifnull, i_aceq, i_getI, i_getR, i_putI, i_putZ, i_putR, i_new, i_newarr, i_ald, i_lald, i_aald, i_alen, i_ast, i_zast, i_last, i_aast, i_aastL, i_cast, i_gste, i_ldcM, i_getC, i_acopy, i_dead, i_objinit, i_callV, i_callS, i_callI, i_iret, i_zret, i_aret, i_vret, i_throw, popN, pushO, lget, lset, isRf_ref, isRf_null, isRf_rf, isC1_int, isC1_ref, isC1_null, isC1_rf, true_and, and_true, List.length_cons, List.length_nil, Nat.reduceAdd, Nat.reduceLeDiff, hK_sI, hN_sI, hR_sI, hI_sI, hK_sR, hN_sR, hR_sR, hI_sR, kC_2, kC_3, kC_4, kC_5, kC_6, kC_7, kC_8, kC_9, kC_10, kC_11, kC_20, kC_21, kC_22, kC_23, i2_0, i1_1, i0_1, i1_0, bI_and, bI_0, Decidable.not_not, not_false_eq_true, not_true_eq_false, forall_const, false_implies, true_implies, hK_copy, hN_copy, hI_copy, hC_sI, hC_sR, hC_new, hK_new, hN_new, hI_new, hR_new, rf_some, rf_none, ex_ref, ex_null, ex_rf, nref_null, rf_null, Nat.reduceEqDiff, reduceCtorEq, false_and, and_false, if_false, if_true, ne_eq, kO_150, kO_151, kO_152, kO_170, kO_180, kO_190, Value.ref.injEq, exists_eq_left', false_or, hk]
      (repeat' (first | (apply And.intro) | (intro _)))
      all_goals first | exact hp1 (by clear hp1 hp2; grind) | exact hp2 (by clear hp1 hp2; grind)
    · exact hT.elim
  · unfold T_X8_requireFigure at hT
    split at hT
    · exact ⟨Nat.le_of_ble_eq_true rfl, by simp [isC1_int, isC1_ref, isC1_null, isC1_rf]⟩
    · exact hT.elim
def wp_X8_requireUnprinted_0 (P : Option Value → hp_T → Prop) (X : String → hp_T → Prop) : KT :=
  i_aload 0 (i_getR 5 324 (i_ifnull (i_vret P) (i_throw "java/lang/IllegalStateException" X)))
set_option maxRecDepth 20000 in
theorem go_X8_requireUnprinted_0 {z : zT} {P : Option Value → hp_T → Prop} {X : String → hp_T → Prop} (hz : Cx z cX8_requireUnprinted 1 "Panelry" "requireUnprinted" 6 1 6) (hr : Rt z none P X 1 6) : Go z 0 0 0 (wp_X8_requireUnprinted_0 P X) := 
  s_aload_n hz rfl dX8_requireUnprinted_0 (fg_RX8_263 hz dX8_requireUnprinted_1 (s_ifnull hz (tgt := 18) rfl dX8_requireUnprinted_4 (s_vret hz hr rfl rfl dX8_requireUnprinted_18) (s_throwW
    (tx := "the page was printed") hz hr thS (by simp [strTab]) rfl rfl rfl dX8_requireUnprinted_7 dX8_requireUnprinted_10 dX8_requireUnprinted_11 dX8_requireUnprinted_14 dX8_requireUnprinted_17)))

def T_X8_requireUnprinted : PT := fun av h P X => match av with
  | [.ref a] => (hK h a = 5) ∧ ((hR h 324 a 0 = none → P none h) ∧ (¬ hR h 324 a 0 = none → X "java/lang/IllegalStateException" h))
  | _ => False
set_option maxRecDepth 20000 in
theorem ct_X8_requireUnprinted : CT yX8_requireUnprinted cX8_requireUnprinted 1 none 6 1 6 T_X8_requireUnprinted := by
  refine ct_ofE (by decide) (fun z av h P X hT hz hr => ?_) (fun av h P X hT => ?_)
  · unfold T_X8_requireUnprinted at hT
    split at hT
    · refine ⟨_, go_X8_requireUnprinted_0 hz hr, ?_⟩
      rename_i a
      show wp_X8_requireUnprinted_0 P X [some (.ref a)] [] h
      obtain ⟨hk, hp⟩ := hT
      obtain ⟨hp1, hp2⟩ := hp
      simp only [wp_X8_requireUnprinted_0, i_mmax, i_mmin, i_pushI, i_pushN, i_pushL, i_iload, i_aload, i_istore, i_astore, i_iinc, i_iadd, i_isub, i_imul, i_iand, i_ior, i_ixor, i_ishl, i_ishr, i_iushr, i_idiv, i_i2l, i_lcmp, i_dup, i_pop, i_dupx1, i_dup2, i_ifeq, i_ifne, i_iflt, i_ifge, i_ifgt, i_ifle, i_iceq, i_icne, i_iclt, i_icge, i_icgt, i_icle, i_ifnull, i_aceq, i_getI, i_getR, i_putI, i_putZ, i_putR, i_new, i_newarr, i_ald, i_lald, i_aald, i_alen, i_ast, i_zast, i_last, i_aast, i_aastL, i_cast, i_gste, i_ldcM, i_getC, i_acopy, i_dead, i_objinit, i_callV, i_callS, i_callI, i_iret, i_zret, i_aret, i_vret, i_throw, popN, pushO, lget, lset, isRf_ref, isRf_null, isRf_rf, isC1_int, isC1_ref, isC1_null, isC1_rf, true_and, and_true, List.length_cons, List.length_nil, Nat.reduceAdd, Nat.reduceLeDiff, hK_sI, hN_sI, hR_sI, hI_sI, hK_sR, hN_sR, hR_sR, hI_sR, kC_2, kC_3, kC_4, kC_5, kC_6, kC_7, kC_8, kC_9, kC_10, kC_11, kC_20, kC_21, kC_22, kC_23, i2_0, i1_1, i0_1, i1_0, bI_and, bI_0, Decidable.not_not, not_false_eq_true, not_true_eq_false, forall_const, false_implies, true_implies, hK_copy, hN_copy, hI_copy, hC_sI, hC_sR, hC_new, hK_new, hN_new, hI_new, hR_new, rf_some, rf_none, ex_ref, ex_null, ex_rf, nref_null, rf_null, Nat.reduceEqDiff, reduceCtorEq, false_and, and_false, if_false, if_true, ne_eq, kO_150, kO_151, kO_152, kO_170, kO_180, kO_190, Value.ref.injEq, exists_eq_left', false_or, hk]
      exact ⟨hp1, hp2⟩
    · exact hT.elim
  · unfold T_X8_requireUnprinted at hT
    split at hT
    · exact ⟨Nat.le_of_ble_eq_true rfl, by simp [isC1_int, isC1_ref, isC1_null, isC1_rf]⟩
    · exact hT.elim
def cgN (h : hp_T) (c : Nat) : Nat := lsz h (dR h 640 c)
def cg (h : hp_T) (c j : Nat) : Nat := lel h (dR h 640 c) j
def tlN (h : hp_T) (c : Nat) : Nat := lsz h (dR h 641 c)
def tl (h : hp_T) (c j : Nat) : Nat := lel h (dR h 641 c) j
/-- a house that stands -/
def cpOK (h : hp_T) (c : Nat) : Prop := hK h c = 10 ∧ (hR h 640 c 0 = some (dR h 640 c) ∧ hK h (dR h 640 c) = 20 ∧ lOK h (dR h 640 c) ∧ cgN h c ≤ 8 ∧ ∀ j, j < cgN h c → pgOK h (cg h c j)) ∧
  (hR h 641 c 0 = some (dR h 641 c) ∧ hK h (dR h 641 c) = 21 ∧ lOK h (dR h 641 c) ∧ tlN h c ≤ 40 ∧ ∀ j, j < tlN h c → hK h (tl h c j) = 9)
def wp_X8_existingPage_15 (P : Option Value → hp_T → Prop) (X : String → hp_T → Prop) : KT :=
  i_throw "java/lang/IndexOutOfBoundsException" X
set_option maxRecDepth 20000 in
theorem go_X8_existingPage_15 {z : zT} {P : Option Value → hp_T → Prop} {X : String → hp_T → Prop} (hz : Cx z cX8_existingPage 2 "Panelry" "existingPage" 6 1 6) (hr : Rt z (some (.object "Panelry$Page")) P X 1 6) : Go z 0 0 15 (wp_X8_existingPage_15 P X) := 
  s_throwW (tx := "no such page") hz hr thI (by simp [strTab]) rfl rfl rfl dX8_existingPage_15 dX8_existingPage_18 dX8_existingPage_19 dX8_existingPage_22 dX8_existingPage_25
def wp_X8_existingPage_0 (P : Option Value → hp_T → Prop) (X : String → hp_T → Prop) : KT :=
  i_iload 1 (i_iflt (wp_X8_existingPage_15 P X) (i_iload 1 (i_aload 0 (i_getR 10 640 (i_callV 0 1 T_Jx4a65c_size_8abf5 noX (i_iclt (i_aload 0 (i_getR 10 640 (i_iload 1 (i_callV 1 1 T_Jx4a65c_get_915e3 noX
    (i_cast 5 (i_aret P)))))) (wp_X8_existingPage_15 P X)))))))
set_option maxRecDepth 20000 in
theorem go_X8_existingPage_0 {z : zT} {P : Option Value → hp_T → Prop} {X : String → hp_T → Prop} (hz : Cx z cX8_existingPage 2 "Panelry" "existingPage" 6 1 6) (hr : Rt z (some (.object "Panelry$Page")) P X 1 6) : Go z 0 0 0 (wp_X8_existingPage_0 P X) := 
  s_iload_n hz rfl dX8_existingPage_0 (s_iflt hz (tgt := 15) rfl dX8_existingPage_1 (go_X8_existingPage_15 hz hr) (s_iload_n hz rfl dX8_existingPage_4 (s_aload_n hz rfl dX8_existingPage_5
    (fg_RX8_12 hz dX8_existingPage_6 (s_callV hz ct_Jx4a65c_size_8abf5 ⟨w112, w115, w32, by decide, by decide, by decide +kernel⟩ w113 w114 cls0 rfl rfl rfl rfl rfl rfl out_no dX8_existingPage_9
    (s_iclt hz (tgt := 26) rfl dX8_existingPage_12 (s_aload_n hz rfl dX8_existingPage_26 (fg_RX8_12 hz dX8_existingPage_27 (s_iload_n hz rfl dX8_existingPage_30 (s_callV hz ct_Jx4a65c_get_915e3 ⟨w116, w119, w32, by decide, by decide, by decide +kernel⟩ w117 w118 cls0 rfl rfl rfl rfl rfl rfl out_no dX8_existingPage_31
    (s_cast hz kO_5 rfl cls4 w130 dX8_existingPage_34 (s_aret hz hr (Or.inl ⟨_, rfl⟩) rfl rfl dX8_existingPage_37)))))) (go_X8_existingPage_15 hz hr)))))))

def T_X8_existingPage : PT := fun av h P X => match av with
  | [.ref c, .int v] => (cpOK h c) ∧ ((¬ v < 0 ∧ v < nI (cgN h c) → P (some (.ref (cg h c v.toNatClampNeg))) h) ∧ (¬ (¬ v < 0 ∧ v < nI (cgN h c)) → X "java/lang/IndexOutOfBoundsException" h))
  | _ => False
set_option maxRecDepth 20000 in
theorem ct_X8_existingPage : CT yX8_existingPage cX8_existingPage 2 (some (.object "Panelry$Page")) 6 1 6 T_X8_existingPage := by
  refine ct_ofE (by decide) (fun z av h P X hT hz hr => ?_) (fun av h P X hT => ?_)
  · unfold T_X8_existingPage at hT
    split at hT
    · refine ⟨_, go_X8_existingPage_0 hz hr, ?_⟩
      rename_i c v
      show wp_X8_existingPage_0 P X [some (.ref c), some (.int v)] [] h
      obtain ⟨hk, hp⟩ := hT
      obtain ⟨hp1, hp2⟩ := hp
      obtain ⟨k1, ⟨k2, k3, k4, k5, k6⟩, -⟩ := hk
      have eN : lsz h (dR h 640 c) = cgN h c := rfl
      have eP : ∀ j, lel h (dR h 640 c) j = cg h c j := fun _ => rfl
      simp only [wp_X8_existingPage_15, wp_X8_existingPage_0, T_Jx4a65c_size_8abf5, T_Jx4a65c_get_915e3, k1, k2, k3, k4, eN, eP, i_mmax, i_mmin, i_pushI, i_pushN, i_pushL, i_iload, i_aload, i_istore, i_astore, i_iinc, i_iadd, i_isub, i_imul, i_iand, i_ior, i_ixor, i_ishl, i_ishr, i_iushr, i_idiv, i_i2l, i_lcmp, i_dup, i_pop, i_dupx1, i_dup2, i_ifeq, i_ifne, i_iflt, i_ifge, i_ifgt, i_ifle, i_iceq, i_icne, i_iclt, i_icge, i_icgt, i_icle, i_ifnull, i_aceq, i_getI, i_getR, i_putI, i_putZ, i_putR, i_new, i_newarr, i_ald, i_lald, i_aald, i_alen, i_ast, i_zast, i_last, i_aast, i_aastL, i_cast, i_gste, i_ldcM, i_getC, i_acopy, i_dead, i_objinit, i_callV, i_callS, i_callI, i_iret, i_zret, i_aret, i_vret, i_throw, popN, pushO, lget, lset, isRf_ref, isRf_null, isRf_rf, isC1_int, isC1_ref, isC1_null, isC1_rf, true_and, and_true, List.length_cons, List.length_nil, Nat.reduceAdd, Nat.reduceLeDiff, hK_sI, hN_sI, hR_sI, hI_sI, hK_sR, hN_sR, hR_sR, hI_sR, kC_2, kC_3, kC_4, kC_5, kC_6, kC_7, kC_8, kC_9, kC_10, kC_11, kC_20, kC_21, kC_22, kC_23, i2_0, i1_1, i0_1, i1_0, bI_and, bI_0, Decidable.not_not, not_false_eq_true, not_true_eq_false, forall_const, false_implies, true_implies, hK_copy, hN_copy, hI_copy, hC_sI, hC_sR, hC_new, hK_new, hN_new, hI_new, hR_new, rf_some, rf_none, ex_ref, ex_null, ex_rf, nref_null, rf_null, Nat.reduceEqDiff, reduceCtorEq, false_and, and_false, if_false, if_true, ne_eq, kO_150, kO_151, kO_152, kO_170, kO_180, kO_190, Value.ref.injEq, exists_eq_left', false_or]
      refine ⟨fun e => hp2 (fun z => z.1 e), fun e => ⟨fun e3 => ?_, fun e2 => hp2 (fun z => e2 z.2)⟩⟩
      obtain ⟨y1, y2⟩ := nI_lt8 e e3 (by omega)
      have kq := k6 _ y1
      refine ⟨⟨e, e3⟩, ?_, hp1 ⟨e, e3⟩⟩
      exact kq.1
    · exact hT.elim
  · unfold T_X8_existingPage at hT
    split at hT
    · exact ⟨Nat.le_of_ble_eq_true rfl, by simp [isC1_int, isC1_ref, isC1_null, isC1_rf]⟩
    · exact hT.elim
def wp_X8_existingPanel_15 (P : Option Value → hp_T → Prop) (X : String → hp_T → Prop) : KT :=
  i_throw "java/lang/IndexOutOfBoundsException" X
set_option maxRecDepth 20000 in
theorem go_X8_existingPanel_15 {z : zT} {P : Option Value → hp_T → Prop} {X : String → hp_T → Prop} (hz : Cx z cX8_existingPanel 2 "Panelry" "existingPanel" 6 1 6) (hr : Rt z (some (.object "Panelry$Panel")) P X 1 6) : Go z 0 0 15 (wp_X8_existingPanel_15 P X) := 
  s_throwW (tx := "no such panel") hz hr thI (by simp [strTab]) rfl rfl rfl dX8_existingPanel_15 dX8_existingPanel_18 dX8_existingPanel_19 dX8_existingPanel_22 dX8_existingPanel_25
def wp_X8_existingPanel_0 (P : Option Value → hp_T → Prop) (X : String → hp_T → Prop) : KT :=
  i_iload 1 (i_iflt (wp_X8_existingPanel_15 P X) (i_iload 1 (i_aload 0 (i_getR 5 320 (i_callV 0 1 T_Jx4a65c_size_8abf5 noX (i_iclt (i_aload 0 (i_getR 5 320 (i_iload 1 (i_callV 1 1 T_Jx4a65c_get_915e3 noX
    (i_cast 6 (i_aret P)))))) (wp_X8_existingPanel_15 P X)))))))
set_option maxRecDepth 20000 in
theorem go_X8_existingPanel_0 {z : zT} {P : Option Value → hp_T → Prop} {X : String → hp_T → Prop} (hz : Cx z cX8_existingPanel 2 "Panelry" "existingPanel" 6 1 6) (hr : Rt z (some (.object "Panelry$Panel")) P X 1 6) : Go z 0 0 0 (wp_X8_existingPanel_0 P X) := 
  s_iload_n hz rfl dX8_existingPanel_0 (s_iflt hz (tgt := 15) rfl dX8_existingPanel_1 (go_X8_existingPanel_15 hz hr) (s_iload_n hz rfl dX8_existingPanel_4 (s_aload_n hz rfl dX8_existingPanel_5
    (fg_RX8_63 hz dX8_existingPanel_6 (s_callV hz ct_Jx4a65c_size_8abf5 ⟨w112, w115, w32, by decide, by decide, by decide +kernel⟩ w113 w114 cls0 rfl rfl rfl rfl rfl rfl out_no dX8_existingPanel_9
    (s_iclt hz (tgt := 26) rfl dX8_existingPanel_12 (s_aload_n hz rfl dX8_existingPanel_26 (fg_RX8_63 hz dX8_existingPanel_27 (s_iload_n hz rfl dX8_existingPanel_30 (s_callV hz ct_Jx4a65c_get_915e3 ⟨w116, w119, w32, by decide, by decide, by decide +kernel⟩ w117 w118 cls0 rfl rfl rfl rfl rfl rfl out_no dX8_existingPanel_31
    (s_cast hz kO_6 rfl cls5 w501 dX8_existingPanel_34 (s_aret hz hr (Or.inl ⟨_, rfl⟩) rfl rfl dX8_existingPanel_37)))))) (go_X8_existingPanel_15 hz hr)))))))

def T_X8_existingPanel : PT := fun av h P X => match av with
  | [.ref a, .int v] => (pgOK h a) ∧ ((¬ v < 0 ∧ v < nI (pnN h a) → P (some (.ref (pn h a v.toNatClampNeg))) h) ∧ (¬ (¬ v < 0 ∧ v < nI (pnN h a)) → X "java/lang/IndexOutOfBoundsException" h))
  | _ => False
set_option maxRecDepth 20000 in
theorem ct_X8_existingPanel : CT yX8_existingPanel cX8_existingPanel 2 (some (.object "Panelry$Panel")) 6 1 6 T_X8_existingPanel := by
  refine ct_ofE (by decide) (fun z av h P X hT hz hr => ?_) (fun av h P X hT => ?_)
  · unfold T_X8_existingPanel at hT
    split at hT
    · refine ⟨_, go_X8_existingPanel_0 hz hr, ?_⟩
      rename_i a v
      show wp_X8_existingPanel_0 P X [some (.ref a), some (.int v)] [] h
      obtain ⟨hk, hp⟩ := hT
      obtain ⟨hp1, hp2⟩ := hp
      obtain ⟨k1, ⟨k2, k3, k4, k5, k6⟩, ⟨k7, k8, k9, k10, k11⟩, k12, k13⟩ := hk
      have eN : lsz h (dR h 320 a) = pnN h a := rfl
      have eB : lsz h (dR h 321 a) = blN h a := rfl
      have eP : ∀ j, lel h (dR h 320 a) j = pn h a j := fun _ => rfl
      have eL : ∀ j, lel h (dR h 321 a) j = bl h a j := fun _ => rfl
      have eQ : ∀ j, dR h 384 (pn h a j) = pb h a j := fun _ => rfl
      have eR : ∀ j, dR h 131 (bl h a j) = bb h a j := fun _ => rfl
      simp only [wp_X8_existingPanel_15, wp_X8_existingPanel_0, T_Jx4a65c_size_8abf5, T_Jx4a65c_get_915e3, k1, k2, k3, k4, k7, k8, k9, eN, eB, eP, eL, eQ, eR, i_mmax, i_mmin, i_pushI, i_pushN, i_pushL, i_iload, i_aload, i_istore, i_astore, i_iinc, i_iadd, i_isub, i_imul, i_iand, i_ior, i_ixor, i_ishl, i_ishr, i_iushr, i_idiv, i_i2l, i_lcmp, i_dup, i_pop, i_dupx1, i_dup2, i_ifeq, i_ifne, i_iflt, i_ifge, i_ifgt, i_ifle, i_iceq, i_icne, i_iclt, i_icge, i_icgt, i_icle, i_ifnull, i_aceq, i_getI, i_getR, i_putI, i_putZ, i_putR, i_new, i_newarr, i_ald, i_lald, i_aald, i_alen, i_ast, i_zast, i_last, i_aast, i_aastL, i_cast, i_gste, i_ldcM, i_getC, i_acopy, i_dead, i_objinit, i_callV, i_callS, i_callI, i_iret, i_zret, i_aret, i_vret, i_throw, popN, pushO, lget, lset, isRf_ref, isRf_null, isRf_rf, isC1_int, isC1_ref, isC1_null, isC1_rf, true_and, and_true, List.length_cons, List.length_nil, Nat.reduceAdd, Nat.reduceLeDiff, hK_sI, hN_sI, hR_sI, hI_sI, hK_sR, hN_sR, hR_sR, hI_sR, kC_2, kC_3, kC_4, kC_5, kC_6, kC_7, kC_8, kC_9, kC_10, kC_11, kC_20, kC_21, kC_22, kC_23, i2_0, i1_1, i0_1, i1_0, bI_and, bI_0, Decidable.not_not, not_false_eq_true, not_true_eq_false, forall_const, false_implies, true_implies, hK_copy, hN_copy, hI_copy, hC_sI, hC_sR, hC_new, hK_new, hN_new, hI_new, hR_new, rf_some, rf_none, ex_ref, ex_null, ex_rf, nref_null, rf_null, Nat.reduceEqDiff, reduceCtorEq, false_and, and_false, if_false, if_true, ne_eq, kO_150, kO_151, kO_152, kO_170, kO_180, kO_190, Value.ref.injEq, exists_eq_left', false_or]
      refine ⟨fun e => hp2 (fun z => z.1 e), fun e => ⟨fun e3 => ?_, fun e2 => hp2 (fun z => e2 z.2)⟩⟩
      obtain ⟨y1, y2⟩ := nI_lt8 e e3 (by omega)
      have kq := k6 _ y1
      refine ⟨⟨e, e3⟩, ?_, hp1 ⟨e, e3⟩⟩
      exact kq.1.1
    · exact hT.elim
  · unfold T_X8_existingPanel at hT
    split at hT
    · exact ⟨Nat.le_of_ble_eq_true rfl, by simp [isC1_int, isC1_ref, isC1_null, isC1_rf]⟩
    · exact hT.elim
def wp_X8_existingBalloon_15 (P : Option Value → hp_T → Prop) (X : String → hp_T → Prop) : KT :=
  i_throw "java/lang/IndexOutOfBoundsException" X
set_option maxRecDepth 20000 in
theorem go_X8_existingBalloon_15 {z : zT} {P : Option Value → hp_T → Prop} {X : String → hp_T → Prop} (hz : Cx z cX8_existingBalloon 2 "Panelry" "existingBalloon" 6 1 6) (hr : Rt z (some (.object "Panelry$Balloon")) P X 1 6) : Go z 0 0 15 (wp_X8_existingBalloon_15 P X) := 
  s_throwW (tx := "no such balloon") hz hr thI (by simp [strTab]) rfl rfl rfl dX8_existingBalloon_15 dX8_existingBalloon_18 dX8_existingBalloon_19 dX8_existingBalloon_22 dX8_existingBalloon_25
def wp_X8_existingBalloon_0 (P : Option Value → hp_T → Prop) (X : String → hp_T → Prop) : KT :=
  i_iload 1 (i_iflt (wp_X8_existingBalloon_15 P X) (i_iload 1 (i_aload 0 (i_getR 5 321 (i_callV 0 1 T_Jx4a65c_size_8abf5 noX (i_iclt (i_aload 0 (i_getR 5 321 (i_iload 1 (i_callV 1 1 T_Jx4a65c_get_915e3 noX
    (i_cast 2 (i_aret P)))))) (wp_X8_existingBalloon_15 P X)))))))
set_option maxRecDepth 20000 in
theorem go_X8_existingBalloon_0 {z : zT} {P : Option Value → hp_T → Prop} {X : String → hp_T → Prop} (hz : Cx z cX8_existingBalloon 2 "Panelry" "existingBalloon" 6 1 6) (hr : Rt z (some (.object "Panelry$Balloon")) P X 1 6) : Go z 0 0 0 (wp_X8_existingBalloon_0 P X) := 
  s_iload_n hz rfl dX8_existingBalloon_0 (s_iflt hz (tgt := 15) rfl dX8_existingBalloon_1 (go_X8_existingBalloon_15 hz hr) (s_iload_n hz rfl dX8_existingBalloon_4 (s_aload_n hz rfl dX8_existingBalloon_5
    (fg_RX8_157 hz dX8_existingBalloon_6 (s_callV hz ct_Jx4a65c_size_8abf5 ⟨w112, w115, w32, by decide, by decide, by decide +kernel⟩ w113 w114 cls0 rfl rfl rfl rfl rfl rfl out_no dX8_existingBalloon_9
    (s_iclt hz (tgt := 26) rfl dX8_existingBalloon_12 (s_aload_n hz rfl dX8_existingBalloon_26 (fg_RX8_157 hz dX8_existingBalloon_27 (s_iload_n hz rfl dX8_existingBalloon_30 (s_callV hz ct_Jx4a65c_get_915e3 ⟨w116, w119, w32, by decide, by decide, by decide +kernel⟩ w117 w118 cls0 rfl rfl rfl rfl rfl rfl out_no dX8_existingBalloon_31
    (s_cast hz kO_2 rfl cls1 w703 dX8_existingBalloon_34 (s_aret hz hr (Or.inl ⟨_, rfl⟩) rfl rfl dX8_existingBalloon_37)))))) (go_X8_existingBalloon_15 hz hr)))))))

def T_X8_existingBalloon : PT := fun av h P X => match av with
  | [.ref a, .int v] => (pgOK h a) ∧ ((¬ v < 0 ∧ v < nI (blN h a) → P (some (.ref (bl h a v.toNatClampNeg))) h) ∧ (¬ (¬ v < 0 ∧ v < nI (blN h a)) → X "java/lang/IndexOutOfBoundsException" h))
  | _ => False
set_option maxRecDepth 20000 in
theorem ct_X8_existingBalloon : CT yX8_existingBalloon cX8_existingBalloon 2 (some (.object "Panelry$Balloon")) 6 1 6 T_X8_existingBalloon := by
  refine ct_ofE (by decide) (fun z av h P X hT hz hr => ?_) (fun av h P X hT => ?_)
  · unfold T_X8_existingBalloon at hT
    split at hT
    · refine ⟨_, go_X8_existingBalloon_0 hz hr, ?_⟩
      rename_i a v
      show wp_X8_existingBalloon_0 P X [some (.ref a), some (.int v)] [] h
      obtain ⟨hk, hp⟩ := hT
      obtain ⟨hp1, hp2⟩ := hp
      obtain ⟨k1, ⟨k2, k3, k4, k5, k6⟩, ⟨k7, k8, k9, k10, k11⟩, k12, k13⟩ := hk
      have eN : lsz h (dR h 320 a) = pnN h a := rfl
      have eB : lsz h (dR h 321 a) = blN h a := rfl
      have eP : ∀ j, lel h (dR h 320 a) j = pn h a j := fun _ => rfl
      have eL : ∀ j, lel h (dR h 321 a) j = bl h a j := fun _ => rfl
      have eQ : ∀ j, dR h 384 (pn h a j) = pb h a j := fun _ => rfl
      have eR : ∀ j, dR h 131 (bl h a j) = bb h a j := fun _ => rfl
      simp only [wp_X8_existingBalloon_15, wp_X8_existingBalloon_0, T_Jx4a65c_size_8abf5, T_Jx4a65c_get_915e3, k1, k2, k3, k4, k7, k8, k9, eN, eB, eP, eL, eQ, eR, i_mmax, i_mmin, i_pushI, i_pushN, i_pushL, i_iload, i_aload, i_istore, i_astore, i_iinc, i_iadd, i_isub, i_imul, i_iand, i_ior, i_ixor, i_ishl, i_ishr, i_iushr, i_idiv, i_i2l, i_lcmp, i_dup, i_pop, i_dupx1, i_dup2, i_ifeq, i_ifne, i_iflt, i_ifge, i_ifgt, i_ifle, i_iceq, i_icne, i_iclt, i_icge, i_icgt, i_icle, i_ifnull, i_aceq, i_getI, i_getR, i_putI, i_putZ, i_putR, i_new, i_newarr, i_ald, i_lald, i_aald, i_alen, i_ast, i_zast, i_last, i_aast, i_aastL, i_cast, i_gste, i_ldcM, i_getC, i_acopy, i_dead, i_objinit, i_callV, i_callS, i_callI, i_iret, i_zret, i_aret, i_vret, i_throw, popN, pushO, lget, lset, isRf_ref, isRf_null, isRf_rf, isC1_int, isC1_ref, isC1_null, isC1_rf, true_and, and_true, List.length_cons, List.length_nil, Nat.reduceAdd, Nat.reduceLeDiff, hK_sI, hN_sI, hR_sI, hI_sI, hK_sR, hN_sR, hR_sR, hI_sR, kC_2, kC_3, kC_4, kC_5, kC_6, kC_7, kC_8, kC_9, kC_10, kC_11, kC_20, kC_21, kC_22, kC_23, i2_0, i1_1, i0_1, i1_0, bI_and, bI_0, Decidable.not_not, not_false_eq_true, not_true_eq_false, forall_const, false_implies, true_implies, hK_copy, hN_copy, hI_copy, hC_sI, hC_sR, hC_new, hK_new, hN_new, hI_new, hR_new, rf_some, rf_none, ex_ref, ex_null, ex_rf, nref_null, rf_null, Nat.reduceEqDiff, reduceCtorEq, false_and, and_false, if_false, if_true, ne_eq, kO_150, kO_151, kO_152, kO_170, kO_180, kO_190, Value.ref.injEq, exists_eq_left', false_or]
      refine ⟨fun e => hp2 (fun z => z.1 e), fun e => ⟨fun e3 => ?_, fun e2 => hp2 (fun z => e2 z.2)⟩⟩
      obtain ⟨y1, y2⟩ := nI_lt8 e e3 (by omega)
      have kq := k11 _ y1
      refine ⟨⟨e, e3⟩, ?_, hp1 ⟨e, e3⟩⟩
      exact kq.1
    · exact hT.elim
  · unfold T_X8_existingBalloon at hT
    split at hT
    · exact ⟨Nat.le_of_ble_eq_true rfl, by simp [isC1_int, isC1_ref, isC1_null, isC1_rf]⟩
    · exact hT.elim
