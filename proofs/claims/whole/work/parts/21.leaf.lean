def wp_X7_init_0 (P : Option Value → hp_T → Prop) (X : String → hp_T → Prop) : KT :=
  i_aload 0 (i_objinit (i_aload 0 (i_iload 1 (i_putI 9 576 (i_aload 0 (i_iload 2 (i_putI 9 578 (i_aload 0 (i_iload 3 (i_putI 9 577 (i_aload 0 (i_iload 4 (i_putZ 9 579 (i_aload 0 (i_iload 5
    (i_putI 9 580 (i_vret P)))))))))))))))))
set_option maxRecDepth 20000 in
theorem go_X7_init_0 {z : zT} {P : Option Value → hp_T → Prop} {X : String → hp_T → Prop} (hz : Cx z cX7_init 6 "Panelry$Telling" "<init>" 1 0 0) (hr : Rt z none P X 0 0) : Go z 0 0 0 (wp_X7_init_0 P X) := 
  s_aload_n hz rfl dX7_init_0 (s_objinit hz w831 w61 w62 rfl dX7_init_1 (s_aload_n hz rfl dX7_init_4 (s_iload_n hz rfl dX7_init_5 (fp_RX7_7 hz dX7_init_6 (s_aload_n hz rfl dX7_init_9 (s_iload_n hz rfl dX7_init_10
    (fp_RX7_13 hz dX7_init_11 (s_aload_n hz rfl dX7_init_14 (s_iload_n hz rfl dX7_init_15 (fp_RX7_16 hz dX7_init_16 (s_aload_n hz rfl dX7_init_19 (s_iload hz dX7_init_20 (fp_RX7_19 hz dX7_init_22
    (s_aload_n hz rfl dX7_init_25 (s_iload hz dX7_init_26 (fp_RX7_23 hz dX7_init_28 (s_vret hz hr rfl rfl dX7_init_31)))))))))))))))))

def T_X7_init : PT := fun av h P X => match av with
  | [.ref a, .int f, .int t, .int v, .int r, .int w] => (hK h a = 9 ∧ r &&& 1 = r) ∧ (P none (hsI (hsI (hsI (hsI (hsI h 576 a 0 f) 578 a 0 t) 577 a 0 v) 579 a 0 r) 580 a 0 w))
  | _ => False
set_option maxRecDepth 20000 in
theorem ct_X7_init : CT yX7_init cX7_init 6 none 1 0 0 T_X7_init := by
  refine ct_ofE (by decide) (fun z av h P X hT hz hr => ?_) (fun av h P X hT => ?_)
  · unfold T_X7_init at hT
    split at hT
    · refine ⟨_, go_X7_init_0 hz hr, ?_⟩
      rename_i a f t v r w
      show wp_X7_init_0 P X [some (.ref a), some (.int f), some (.int t), some (.int v), some (.int r), some (.int w)] [] h
      obtain ⟨hk, hp⟩ := hT
      simp only [wp_X7_init_0, i_mmax, i_mmin, i_pushI, i_pushN, i_pushL, i_iload, i_aload, i_istore, i_astore, i_iinc, i_iadd, i_isub, i_imul, i_iand, i_ior, i_ixor, i_ishl, i_ishr, i_iushr, i_idiv, i_i2l, i_lcmp, i_dup, i_pop, i_dupx1, i_dup2, i_ifeq, i_ifne, i_iflt, i_ifge, i_ifgt, i_ifle, i_iceq, i_icne, i_iclt, i_icge, i_icgt, i_icle, i_ifnull, i_aceq, i_getI, i_getR, i_putI, i_putZ, i_putR, i_new, i_newarr, i_ald, i_lald, i_aald, i_alen, i_ast, i_zast, i_last, i_aast, i_aastL, i_cast, i_gste, i_ldcM, i_getC, i_acopy, i_dead, i_objinit, i_callV, i_callS, i_callI, i_iret, i_zret, i_aret, i_vret, i_throw, popN, pushO, lget, lset, isRf_ref, isRf_null, isRf_rf, isC1_int, isC1_ref, isC1_null, isC1_rf, true_and, and_true, List.length_cons, List.length_nil, Nat.reduceAdd, Nat.reduceLeDiff, hK_sI, hN_sI, hR_sI, hI_sI, hK_sR, hN_sR, hR_sR, hI_sR, kC_2, kC_3, kC_4, kC_5, kC_6, kC_7, kC_8, kC_9, kC_10, kC_11, kC_20, kC_21, kC_22, kC_23, i2_0, i1_1, i0_1, i1_0, bI_and, bI_0, Decidable.not_not, not_false_eq_true, not_true_eq_false, forall_const, false_implies, true_implies, hK_copy, hN_copy, hI_copy, hC_sI, hC_sR, hC_new, hK_new, hN_new, hI_new, hR_new, rf_some, rf_none, ex_ref, ex_null, ex_rf, nref_null, rf_null, Nat.reduceEqDiff, reduceCtorEq, false_and, and_false, if_false, if_true, ne_eq, kO_150, kO_151, kO_152, kO_170, kO_180, kO_190, Value.ref.injEq, exists_eq_left', false_or, hk]
      (repeat' (first | (apply And.intro) | (intro _)))
      all_goals first | exact hp | (rw [bI_t (by clear hp; grind)] at hp; exact hp) | (rw [bI_f (by clear hp; grind)] at hp; exact hp) | (simp_all; done)
    · exact hT.elim
  · unfold T_X7_init at hT
    split at hT
    · exact ⟨Nat.le_of_ble_eq_true rfl, by simp [isC1_int, isC1_ref, isC1_null, isC1_rf]⟩
    · exact hT.elim
def wp_X7_isHeard_29 (P : Option Value → hp_T → Prop) (X : String → hp_T → Prop) : KT :=
  i_zret P
set_option maxRecDepth 20000 in
theorem go_X7_isHeard_29 {z : zT} {P : Option Value → hp_T → Prop} {X : String → hp_T → Prop} (hz : Cx z cX7_isHeard 4 "Panelry$Telling" "isHeard" 0 0 0) (hr : Rt z (some .boolean) P X 0 0) : Go z 0 0 29 (wp_X7_isHeard_29 P X) := 
  s_zret hz hr rfl rfl dX7_isHeard_29
def wp_X7_isHeard_28 (P : Option Value → hp_T → Prop) (X : String → hp_T → Prop) : KT :=
  i_pushI 0 (wp_X7_isHeard_29 P X)
set_option maxRecDepth 20000 in
theorem go_X7_isHeard_28 {z : zT} {P : Option Value → hp_T → Prop} {X : String → hp_T → Prop} (hz : Cx z cX7_isHeard 4 "Panelry$Telling" "isHeard" 0 0 0) (hr : Rt z (some .boolean) P X 0 0) : Go z 0 0 28 (wp_X7_isHeard_28 P X) := 
  s_iconst hz rfl dX7_isHeard_28 (go_X7_isHeard_29 hz hr)
def wp_X7_isHeard_0 (P : Option Value → hp_T → Prop) (X : String → hp_T → Prop) : KT :=
  i_aload 0 (i_getI 9 576 (i_iload 1 (i_icne (wp_X7_isHeard_28 P X) (i_aload 0 (i_getI 9 578 (i_iload 2 (i_icgt (wp_X7_isHeard_28 P X) (i_aload 0 (i_getI 9 580 (i_iload 3 (i_icgt (wp_X7_isHeard_28 P X)
    (i_pushI 1 (wp_X7_isHeard_29 P X)))))))))))))
set_option maxRecDepth 20000 in
theorem go_X7_isHeard_0 {z : zT} {P : Option Value → hp_T → Prop} {X : String → hp_T → Prop} (hz : Cx z cX7_isHeard 4 "Panelry$Telling" "isHeard" 0 0 0) (hr : Rt z (some .boolean) P X 0 0) : Go z 0 0 0 (wp_X7_isHeard_0 P X) := 
  s_aload_n hz rfl dX7_isHeard_0 (fg_RX7_7 hz dX7_isHeard_1 (s_iload_n hz rfl dX7_isHeard_4 (s_icne hz (tgt := 28) rfl dX7_isHeard_5 (go_X7_isHeard_28 hz hr) (s_aload_n hz rfl dX7_isHeard_8
    (fg_RX7_13 hz dX7_isHeard_9 (s_iload_n hz rfl dX7_isHeard_12 (s_icgt hz (tgt := 28) rfl dX7_isHeard_13 (go_X7_isHeard_28 hz hr) (s_aload_n hz rfl dX7_isHeard_16 (fg_RX7_23 hz dX7_isHeard_17
    (s_iload_n hz rfl dX7_isHeard_20 (s_icgt hz (tgt := 28) rfl dX7_isHeard_21 (go_X7_isHeard_28 hz hr) (s_iconst hz rfl dX7_isHeard_24 (s_goto hz (tgt := 29) rfl dX7_isHeard_25 (go_X7_isHeard_29 hz hr))))))))))))))

def T_X7_isHeard : PT := fun av h P X => match av with
  | [.ref a, .int f, .int t, .int w] => (hK h a = 9) ∧ (P (some (.int (bI (hI h 576 a 0 = f ∧ hI h 578 a 0 ≤ t ∧ hI h 580 a 0 ≤ w)))) h)
  | _ => False
set_option maxRecDepth 20000 in
theorem ct_X7_isHeard : CT yX7_isHeard cX7_isHeard 4 (some .boolean) 0 0 0 T_X7_isHeard := by
  refine ct_ofE (by decide) (fun z av h P X hT hz hr => ?_) (fun av h P X hT => ?_)
  · unfold T_X7_isHeard at hT
    split at hT
    · refine ⟨_, go_X7_isHeard_0 hz hr, ?_⟩
      rename_i a f t w
      show wp_X7_isHeard_0 P X [some (.ref a), some (.int f), some (.int t), some (.int w)] [] h
      obtain ⟨hk, hp⟩ := hT
      simp only [wp_X7_isHeard_29, wp_X7_isHeard_28, wp_X7_isHeard_0, i_mmax, i_mmin, i_pushI, i_pushN, i_pushL, i_iload, i_aload, i_istore, i_astore, i_iinc, i_iadd, i_isub, i_imul, i_iand, i_ior, i_ixor, i_ishl, i_ishr, i_iushr, i_idiv, i_i2l, i_lcmp, i_dup, i_pop, i_dupx1, i_dup2, i_ifeq, i_ifne, i_iflt, i_ifge, i_ifgt, i_ifle, i_iceq, i_icne, i_iclt, i_icge, i_icgt, i_icle, i_ifnull, i_aceq, i_getI, i_getR, i_putI, i_putZ, i_putR, i_new, i_newarr, i_ald, i_lald, i_aald, i_alen, i_ast, i_zast, i_last, i_aast, i_aastL, i_cast, i_gste, i_ldcM, i_getC, i_acopy, i_dead, i_objinit, i_callV, i_callS, i_callI, i_iret, i_zret, i_aret, i_vret, i_throw, popN, pushO, lget, lset, isRf_ref, isRf_null, isRf_rf, isC1_int, isC1_ref, isC1_null, isC1_rf, true_and, and_true, List.length_cons, List.length_nil, Nat.reduceAdd, Nat.reduceLeDiff, hK_sI, hN_sI, hR_sI, hI_sI, hK_sR, hN_sR, hR_sR, hI_sR, kC_2, kC_3, kC_4, kC_5, kC_6, kC_7, kC_8, kC_9, kC_10, kC_11, kC_20, kC_21, kC_22, kC_23, i2_0, i1_1, i0_1, i1_0, bI_and, bI_0, Decidable.not_not, not_false_eq_true, not_true_eq_false, forall_const, false_implies, true_implies, hK_copy, hN_copy, hI_copy, hC_sI, hC_sR, hC_new, hK_new, hN_new, hI_new, hR_new, rf_some, rf_none, ex_ref, ex_null, ex_rf, nref_null, rf_null, Nat.reduceEqDiff, reduceCtorEq, false_and, and_false, if_false, if_true, ne_eq, kO_150, kO_151, kO_152, kO_170, kO_180, kO_190, Value.ref.injEq, exists_eq_left', false_or, hk]
      (repeat' (first | (apply And.intro) | (intro _)))
      all_goals first | exact hp | (rw [bI_t (by clear hp; grind)] at hp; exact hp) | (rw [bI_f (by clear hp; grind)] at hp; exact hp) | (simp_all; done)
    · exact hT.elim
  · unfold T_X7_isHeard at hT
    split at hT
    · exact ⟨Nat.le_of_ble_eq_true rfl, by simp [isC1_int, isC1_ref, isC1_null, isC1_rf]⟩
    · exact hT.elim
def wp_X7_replaces_27 (P : Option Value → hp_T → Prop) (X : String → hp_T → Prop) : KT :=
  i_zret P
set_option maxRecDepth 20000 in
theorem go_X7_replaces_27 {z : zT} {P : Option Value → hp_T → Prop} {X : String → hp_T → Prop} (hz : Cx z cX7_replaces 2 "Panelry$Telling" "replaces" 0 0 0) (hr : Rt z (some .boolean) P X 0 0) : Go z 0 0 27 (wp_X7_replaces_27 P X) := 
  s_zret hz hr rfl rfl dX7_replaces_27
def wp_X7_replaces_47 (P : Option Value → hp_T → Prop) (X : String → hp_T → Prop) : KT :=
  i_zret P
set_option maxRecDepth 20000 in
theorem go_X7_replaces_47 {z : zT} {P : Option Value → hp_T → Prop} {X : String → hp_T → Prop} (hz : Cx z cX7_replaces 2 "Panelry$Telling" "replaces" 0 0 0) (hr : Rt z (some .boolean) P X 0 0) : Go z 0 0 47 (wp_X7_replaces_47 P X) := 
  s_zret hz hr rfl rfl dX7_replaces_47
def wp_X7_replaces_42 (P : Option Value → hp_T → Prop) (X : String → hp_T → Prop) : KT :=
  i_pushI 1 (wp_X7_replaces_47 P X)
set_option maxRecDepth 20000 in
theorem go_X7_replaces_42 {z : zT} {P : Option Value → hp_T → Prop} {X : String → hp_T → Prop} (hz : Cx z cX7_replaces 2 "Panelry$Telling" "replaces" 0 0 0) (hr : Rt z (some .boolean) P X 0 0) : Go z 0 0 42 (wp_X7_replaces_42 P X) := 
  s_iconst hz rfl dX7_replaces_42 (s_goto hz (tgt := 47) rfl dX7_replaces_43 (go_X7_replaces_47 hz hr))
def wp_X7_replaces_0 (P : Option Value → hp_T → Prop) (X : String → hp_T → Prop) : KT :=
  i_aload 0 (i_getI 9 578 (i_aload 1 (i_getI 9 578 (i_iceq (i_aload 0 (i_getI 9 579 (i_ifne (wp_X7_replaces_42 P X) (i_aload 1 (i_getI 9 579 (i_ifne (i_pushI 0 (wp_X7_replaces_47 P X))
    (wp_X7_replaces_42 P X))))))) (i_aload 0 (i_getI 9 578 (i_aload 1 (i_getI 9 578 (i_icle (i_pushI 0 (wp_X7_replaces_27 P X)) (i_pushI 1 (wp_X7_replaces_27 P X)))))))))))
set_option maxRecDepth 20000 in
theorem go_X7_replaces_0 {z : zT} {P : Option Value → hp_T → Prop} {X : String → hp_T → Prop} (hz : Cx z cX7_replaces 2 "Panelry$Telling" "replaces" 0 0 0) (hr : Rt z (some .boolean) P X 0 0) : Go z 0 0 0 (wp_X7_replaces_0 P X) := 
  s_aload_n hz rfl dX7_replaces_0 (fg_RX7_13 hz dX7_replaces_1 (s_aload_n hz rfl dX7_replaces_4 (fg_RX7_13 hz dX7_replaces_5 (s_iceq hz (tgt := 28) rfl dX7_replaces_8 (s_aload_n hz rfl dX7_replaces_28
    (fg_RX7_19 hz dX7_replaces_29 (s_ifne hz (tgt := 42) rfl dX7_replaces_32 (go_X7_replaces_42 hz hr) (s_aload_n hz rfl dX7_replaces_35 (fg_RX7_19 hz dX7_replaces_36 (s_ifne hz (tgt := 46) rfl dX7_replaces_39
    (s_iconst hz rfl dX7_replaces_46 (go_X7_replaces_47 hz hr)) (go_X7_replaces_42 hz hr))))))) (s_aload_n hz rfl dX7_replaces_11 (fg_RX7_13 hz dX7_replaces_12 (s_aload_n hz rfl dX7_replaces_15
    (fg_RX7_13 hz dX7_replaces_16 (s_icle hz (tgt := 26) rfl dX7_replaces_19 (s_iconst hz rfl dX7_replaces_26 (go_X7_replaces_27 hz hr)) (s_iconst hz rfl dX7_replaces_22 (s_goto hz (tgt := 27) rfl dX7_replaces_23
    (go_X7_replaces_27 hz hr))))))))))))

def T_X7_replaces : PT := fun av h P X => match av with
  | [.ref a, .ref b] => (hK h a = 9 ∧ hK h b = 9) ∧ (P (some (.int (bI (hI h 578 b 0 < hI h 578 a 0 ∨ (hI h 578 a 0 = hI h 578 b 0 ∧ (¬ hI h 579 a 0 = 0 ∨ hI h 579 b 0 = 0)))))) h)
  | _ => False
set_option maxRecDepth 20000 in
theorem ct_X7_replaces : CT yX7_replaces cX7_replaces 2 (some .boolean) 0 0 0 T_X7_replaces := by
  refine ct_ofE (by decide) (fun z av h P X hT hz hr => ?_) (fun av h P X hT => ?_)
  · unfold T_X7_replaces at hT
    split at hT
    · refine ⟨_, go_X7_replaces_0 hz hr, ?_⟩
      rename_i a b
      show wp_X7_replaces_0 P X [some (.ref a), some (.ref b)] [] h
      obtain ⟨hk, hp⟩ := hT
      simp only [wp_X7_replaces_27, wp_X7_replaces_47, wp_X7_replaces_42, wp_X7_replaces_0, i_mmax, i_mmin, i_pushI, i_pushN, i_pushL, i_iload, i_aload, i_istore, i_astore, i_iinc, i_iadd, i_isub, i_imul, i_iand, i_ior, i_ixor, i_ishl, i_ishr, i_iushr, i_idiv, i_i2l, i_lcmp, i_dup, i_pop, i_dupx1, i_dup2, i_ifeq, i_ifne, i_iflt, i_ifge, i_ifgt, i_ifle, i_iceq, i_icne, i_iclt, i_icge, i_icgt, i_icle, i_ifnull, i_aceq, i_getI, i_getR, i_putI, i_putZ, i_putR, i_new, i_newarr, i_ald, i_lald, i_aald, i_alen, i_ast, i_zast, i_last, i_aast, i_aastL, i_cast, i_gste, i_ldcM, i_getC, i_acopy, i_dead, i_objinit, i_callV, i_callS, i_callI, i_iret, i_zret, i_aret, i_vret, i_throw, popN, pushO, lget, lset, isRf_ref, isRf_null, isRf_rf, isC1_int, isC1_ref, isC1_null, isC1_rf, true_and, and_true, List.length_cons, List.length_nil, Nat.reduceAdd, Nat.reduceLeDiff, hK_sI, hN_sI, hR_sI, hI_sI, hK_sR, hN_sR, hR_sR, hI_sR, kC_2, kC_3, kC_4, kC_5, kC_6, kC_7, kC_8, kC_9, kC_10, kC_11, kC_20, kC_21, kC_22, kC_23, i2_0, i1_1, i0_1, i1_0, bI_and, bI_0, Decidable.not_not, not_false_eq_true, not_true_eq_false, forall_const, false_implies, true_implies, hK_copy, hN_copy, hI_copy, hC_sI, hC_sR, hC_new, hK_new, hN_new, hI_new, hR_new, rf_some, rf_none, ex_ref, ex_null, ex_rf, nref_null, rf_null, Nat.reduceEqDiff, reduceCtorEq, false_and, and_false, if_false, if_true, ne_eq, kO_150, kO_151, kO_152, kO_170, kO_180, kO_190, Value.ref.injEq, exists_eq_left', false_or, hk]
      (repeat' (first | (apply And.intro) | (intro _)))
      all_goals first | exact hp | (rw [bI_t (by clear hp; grind)] at hp; exact hp) | (rw [bI_f (by clear hp; grind)] at hp; exact hp) | (simp_all; done)
    · exact hT.elim
  · unfold T_X7_replaces at hT
    split at hT
    · exact ⟨Nat.le_of_ble_eq_true rfl, by simp [isC1_int, isC1_ref, isC1_null, isC1_rf]⟩
    · exact hT.elim
def wp_X7_contradicts_45 (P : Option Value → hp_T → Prop) (X : String → hp_T → Prop) : KT :=
  i_zret P
set_option maxRecDepth 20000 in
theorem go_X7_contradicts_45 {z : zT} {P : Option Value → hp_T → Prop} {X : String → hp_T → Prop} (hz : Cx z cX7_contradicts 2 "Panelry$Telling" "contradicts" 0 0 0) (hr : Rt z (some .boolean) P X 0 0) : Go z 0 0 45 (wp_X7_contradicts_45 P X) := 
  s_zret hz hr rfl rfl dX7_contradicts_45
def wp_X7_contradicts_44 (P : Option Value → hp_T → Prop) (X : String → hp_T → Prop) : KT :=
  i_pushI 0 (wp_X7_contradicts_45 P X)
set_option maxRecDepth 20000 in
theorem go_X7_contradicts_44 {z : zT} {P : Option Value → hp_T → Prop} {X : String → hp_T → Prop} (hz : Cx z cX7_contradicts 2 "Panelry$Telling" "contradicts" 0 0 0) (hr : Rt z (some .boolean) P X 0 0) : Go z 0 0 44 (wp_X7_contradicts_44 P X) := 
  s_iconst hz rfl dX7_contradicts_44 (go_X7_contradicts_45 hz hr)
def wp_X7_contradicts_0 (P : Option Value → hp_T → Prop) (X : String → hp_T → Prop) : KT :=
  i_aload 0 (i_getI 9 576 (i_aload 1 (i_getI 9 576 (i_icne (wp_X7_contradicts_44 P X) (i_aload 0 (i_getI 9 578 (i_aload 1 (i_getI 9 578 (i_icne (wp_X7_contradicts_44 P X) (i_aload 0 (i_getI 9 577
    (i_aload 1 (i_getI 9 577 (i_iceq (wp_X7_contradicts_44 P X) (i_aload 0 (i_getI 9 579 (i_ifne (wp_X7_contradicts_44 P X) (i_pushI 1 (wp_X7_contradicts_45 P X)))))))))))))))))))
set_option maxRecDepth 20000 in
theorem go_X7_contradicts_0 {z : zT} {P : Option Value → hp_T → Prop} {X : String → hp_T → Prop} (hz : Cx z cX7_contradicts 2 "Panelry$Telling" "contradicts" 0 0 0) (hr : Rt z (some .boolean) P X 0 0) : Go z 0 0 0 (wp_X7_contradicts_0 P X) := 
  s_aload_n hz rfl dX7_contradicts_0 (fg_RX7_7 hz dX7_contradicts_1 (s_aload_n hz rfl dX7_contradicts_4 (fg_RX7_7 hz dX7_contradicts_5 (s_icne hz (tgt := 44) rfl dX7_contradicts_8 (go_X7_contradicts_44 hz hr)
    (s_aload_n hz rfl dX7_contradicts_11 (fg_RX7_13 hz dX7_contradicts_12 (s_aload_n hz rfl dX7_contradicts_15 (fg_RX7_13 hz dX7_contradicts_16 (s_icne hz (tgt := 44) rfl dX7_contradicts_19
    (go_X7_contradicts_44 hz hr) (s_aload_n hz rfl dX7_contradicts_22 (fg_RX7_16 hz dX7_contradicts_23 (s_aload_n hz rfl dX7_contradicts_26 (fg_RX7_16 hz dX7_contradicts_27 (s_iceq hz (tgt := 44) rfl dX7_contradicts_30
    (go_X7_contradicts_44 hz hr) (s_aload_n hz rfl dX7_contradicts_33 (fg_RX7_19 hz dX7_contradicts_34 (s_ifne hz (tgt := 44) rfl dX7_contradicts_37 (go_X7_contradicts_44 hz hr) (s_iconst hz rfl dX7_contradicts_40
    (s_goto hz (tgt := 45) rfl dX7_contradicts_41 (go_X7_contradicts_45 hz hr))))))))))))))))))))

def T_X7_contradicts : PT := fun av h P X => match av with
  | [.ref a, .ref b] => (hK h a = 9 ∧ hK h b = 9) ∧ (P (some (.int (bI (hI h 576 a 0 = hI h 576 b 0 ∧ hI h 578 a 0 = hI h 578 b 0 ∧ ¬ hI h 577 a 0 = hI h 577 b 0 ∧ hI h 579 a 0 = 0)))) h)
  | _ => False
set_option maxRecDepth 20000 in
theorem ct_X7_contradicts : CT yX7_contradicts cX7_contradicts 2 (some .boolean) 0 0 0 T_X7_contradicts := by
  refine ct_ofE (by decide) (fun z av h P X hT hz hr => ?_) (fun av h P X hT => ?_)
  · unfold T_X7_contradicts at hT
    split at hT
    · refine ⟨_, go_X7_contradicts_0 hz hr, ?_⟩
      rename_i a b
      show wp_X7_contradicts_0 P X [some (.ref a), some (.ref b)] [] h
      obtain ⟨hk, hp⟩ := hT
      simp only [wp_X7_contradicts_45, wp_X7_contradicts_44, wp_X7_contradicts_0, i_mmax, i_mmin, i_pushI, i_pushN, i_pushL, i_iload, i_aload, i_istore, i_astore, i_iinc, i_iadd, i_isub, i_imul, i_iand, i_ior, i_ixor, i_ishl, i_ishr, i_iushr, i_idiv, i_i2l, i_lcmp, i_dup, i_pop, i_dupx1, i_dup2, i_ifeq, i_ifne, i_iflt, i_ifge, i_ifgt, i_ifle, i_iceq, i_icne, i_iclt, i_icge, i_icgt, i_icle, i_ifnull, i_aceq, i_getI, i_getR, i_putI, i_putZ, i_putR, i_new, i_newarr, i_ald, i_lald, i_aald, i_alen, i_ast, i_zast, i_last, i_aast, i_aastL, i_cast, i_gste, i_ldcM, i_getC, i_acopy, i_dead, i_objinit, i_callV, i_callS, i_callI, i_iret, i_zret, i_aret, i_vret, i_throw, popN, pushO, lget, lset, isRf_ref, isRf_null, isRf_rf, isC1_int, isC1_ref, isC1_null, isC1_rf, true_and, and_true, List.length_cons, List.length_nil, Nat.reduceAdd, Nat.reduceLeDiff, hK_sI, hN_sI, hR_sI, hI_sI, hK_sR, hN_sR, hR_sR, hI_sR, kC_2, kC_3, kC_4, kC_5, kC_6, kC_7, kC_8, kC_9, kC_10, kC_11, kC_20, kC_21, kC_22, kC_23, i2_0, i1_1, i0_1, i1_0, bI_and, bI_0, Decidable.not_not, not_false_eq_true, not_true_eq_false, forall_const, false_implies, true_implies, hK_copy, hN_copy, hI_copy, hC_sI, hC_sR, hC_new, hK_new, hN_new, hI_new, hR_new, rf_some, rf_none, ex_ref, ex_null, ex_rf, nref_null, rf_null, Nat.reduceEqDiff, reduceCtorEq, false_and, and_false, if_false, if_true, ne_eq, kO_150, kO_151, kO_152, kO_170, kO_180, kO_190, Value.ref.injEq, exists_eq_left', false_or, hk]
      (repeat' (first | (apply And.intro) | (intro _)))
      all_goals first | exact hp | (rw [bI_t (by clear hp; grind)] at hp; exact hp) | (rw [bI_f (by clear hp; grind)] at hp; exact hp) | (simp_all; done)
    · exact hT.elim
  · unfold T_X7_contradicts at hT
    split at hT
    · exact ⟨Nat.le_of_ble_eq_true rfl, by simp [isC1_int, isC1_ref, isC1_null, isC1_rf]⟩
    · exact hT.elim
def wp_X2_init_0 (P : Option Value → hp_T → Prop) (X : String → hp_T → Prop) : KT :=
  i_aload 0 (i_objinit (i_aload 0 (i_aload 1 (i_putR 4 256 (i_aload 0 (i_iload 2 (i_putI 4 257 (i_aload 0 (i_iload 3 (i_putZ 4 258 (i_vret P)))))))))))
set_option maxRecDepth 20000 in
theorem go_X2_init_0 {z : zT} {P : Option Value → hp_T → Prop} {X : String → hp_T → Prop} (hz : Cx z cX2_init 4 "Panelry$Face" "<init>" 1 0 0) (hr : Rt z none P X 0 0) : Go z 0 0 0 (wp_X2_init_0 P X) := 
  s_aload_n hz rfl dX2_init_0 (s_objinit hz w612 w61 w62 rfl dX2_init_1 (s_aload_n hz rfl dX2_init_4 (s_aload_n hz rfl dX2_init_5 (fp_RX2_9 hz dX2_init_6 (s_aload_n hz rfl dX2_init_9 (s_iload_n hz rfl dX2_init_10
    (fp_RX2_15 hz dX2_init_11 (s_aload_n hz rfl dX2_init_14 (s_iload_n hz rfl dX2_init_15 (fp_RX2_19 hz dX2_init_16 (s_vret hz hr rfl rfl dX2_init_19)))))))))))

def T_X2_init : PT := fun av h P X => match av with
  | [.ref a, .ref b, .int w, .int c] => (hK h a = 4 ∧ c &&& 1 = c) ∧ (P none (hsI (hsI (hsR h 256 a 0 (some b)) 257 a 0 w) 258 a 0 c))
  | _ => False
set_option maxRecDepth 20000 in
theorem ct_X2_init : CT yX2_init cX2_init 4 none 1 0 0 T_X2_init := by
  refine ct_ofE (by decide) (fun z av h P X hT hz hr => ?_) (fun av h P X hT => ?_)
  · unfold T_X2_init at hT
    split at hT
    · refine ⟨_, go_X2_init_0 hz hr, ?_⟩
      rename_i a b w c
      show wp_X2_init_0 P X [some (.ref a), some (.ref b), some (.int w), some (.int c)] [] h
      obtain ⟨hk, hp⟩ := hT
      simp only [wp_X2_init_0, i_mmax, i_mmin, i_pushI, i_pushN, i_pushL, i_iload, i_aload, i_istore, i_astore, i_iinc, i_iadd, i_isub, i_imul, i_iand, i_ior, i_ixor, i_ishl, i_ishr, i_iushr, i_idiv, i_i2l, i_lcmp, i_dup, i_pop, i_dupx1, i_dup2, i_ifeq, i_ifne, i_iflt, i_ifge, i_ifgt, i_ifle, i_iceq, i_icne, i_iclt, i_icge, i_icgt, i_icle, i_ifnull, i_aceq, i_getI, i_getR, i_putI, i_putZ, i_putR, i_new, i_newarr, i_ald, i_lald, i_aald, i_alen, i_ast, i_zast, i_last, i_aast, i_aastL, i_cast, i_gste, i_ldcM, i_getC, i_acopy, i_dead, i_objinit, i_callV, i_callS, i_callI, i_iret, i_zret, i_aret, i_vret, i_throw, popN, pushO, lget, lset, isRf_ref, isRf_null, isRf_rf, isC1_int, isC1_ref, isC1_null, isC1_rf, true_and, and_true, List.length_cons, List.length_nil, Nat.reduceAdd, Nat.reduceLeDiff, hK_sI, hN_sI, hR_sI, hI_sI, hK_sR, hN_sR, hR_sR, hI_sR, kC_2, kC_3, kC_4, kC_5, kC_6, kC_7, kC_8, kC_9, kC_10, kC_11, kC_20, kC_21, kC_22, kC_23, i2_0, i1_1, i0_1, i1_0, bI_and, bI_0, Decidable.not_not, not_false_eq_true, not_true_eq_false, forall_const, false_implies, true_implies, hK_copy, hN_copy, hI_copy, hC_sI, hC_sR, hC_new, hK_new, hN_new, hI_new, hR_new, rf_some, rf_none, ex_ref, ex_null, ex_rf, nref_null, rf_null, Nat.reduceEqDiff, reduceCtorEq, false_and, and_false, if_false, if_true, ne_eq, kO_150, kO_151, kO_152, kO_170, kO_180, kO_190, Value.ref.injEq, exists_eq_left', false_or, hk]
      (repeat' (first | (apply And.intro) | (intro _)))
      all_goals first | exact hp | (rw [bI_t (by clear hp; grind)] at hp; exact hp) | (rw [bI_f (by clear hp; grind)] at hp; exact hp) | (simp_all; done)
    · exact hT.elim
  · unfold T_X2_init at hT
    split at hT
    · exact ⟨Nat.le_of_ble_eq_true rfl, by simp [isC1_int, isC1_ref, isC1_null, isC1_rf]⟩
    · exact hT.elim
def wp_X2_isBreakAfter_25 (P : Option Value → hp_T → Prop) (X : String → hp_T → Prop) : KT :=
  i_zret P
set_option maxRecDepth 20000 in
theorem go_X2_isBreakAfter_25 {z : zT} {P : Option Value → hp_T → Prop} {X : String → hp_T → Prop} (hz : Cx z cX2_isBreakAfter 2 "Panelry$Face" "isBreakAfter" 0 0 0) (hr : Rt z (some .boolean) P X 0 0) : Go z 0 0 25 (wp_X2_isBreakAfter_25 P X) := 
  s_zret hz hr rfl rfl dX2_isBreakAfter_25
def wp_X2_isBreakAfter_24 (P : Option Value → hp_T → Prop) (X : String → hp_T → Prop) : KT :=
  i_pushI 0 (wp_X2_isBreakAfter_25 P X)
set_option maxRecDepth 20000 in
theorem go_X2_isBreakAfter_24 {z : zT} {P : Option Value → hp_T → Prop} {X : String → hp_T → Prop} (hz : Cx z cX2_isBreakAfter 2 "Panelry$Face" "isBreakAfter" 0 0 0) (hr : Rt z (some .boolean) P X 0 0) : Go z 0 0 24 (wp_X2_isBreakAfter_24 P X) := 
  s_iconst hz rfl dX2_isBreakAfter_24 (go_X2_isBreakAfter_25 hz hr)
def wp_X2_isBreakAfter_0 (P : Option Value → hp_T → Prop) (X : String → hp_T → Prop) : KT :=
  i_iload 1 (i_pushI (-1) (i_iceq (wp_X2_isBreakAfter_24 P X) (i_iload 1 (i_aload 0 (i_getI 4 257 (i_iceq (wp_X2_isBreakAfter_24 P X) (i_aload 0 (i_getI 4 258 (i_ifne (wp_X2_isBreakAfter_24 P X)
    (i_pushI 1 (wp_X2_isBreakAfter_25 P X)))))))))))
set_option maxRecDepth 20000 in
theorem go_X2_isBreakAfter_0 {z : zT} {P : Option Value → hp_T → Prop} {X : String → hp_T → Prop} (hz : Cx z cX2_isBreakAfter 2 "Panelry$Face" "isBreakAfter" 0 0 0) (hr : Rt z (some .boolean) P X 0 0) : Go z 0 0 0 (wp_X2_isBreakAfter_0 P X) := 
  s_iload_n hz rfl dX2_isBreakAfter_0 (s_iconst hz rfl dX2_isBreakAfter_1 (s_iceq hz (tgt := 24) rfl dX2_isBreakAfter_2 (go_X2_isBreakAfter_24 hz hr) (s_iload_n hz rfl dX2_isBreakAfter_5
    (s_aload_n hz rfl dX2_isBreakAfter_6 (fg_RX2_15 hz dX2_isBreakAfter_7 (s_iceq hz (tgt := 24) rfl dX2_isBreakAfter_10 (go_X2_isBreakAfter_24 hz hr) (s_aload_n hz rfl dX2_isBreakAfter_13
    (fg_RX2_19 hz dX2_isBreakAfter_14 (s_ifne hz (tgt := 24) rfl dX2_isBreakAfter_17 (go_X2_isBreakAfter_24 hz hr) (s_iconst hz rfl dX2_isBreakAfter_20 (s_goto hz (tgt := 25) rfl dX2_isBreakAfter_21
    (go_X2_isBreakAfter_25 hz hr))))))))))))

def T_X2_isBreakAfter : PT := fun av h P X => match av with
  | [.ref a, .int w] => (hK h a = 4) ∧ (P (some (.int (bI (¬ w = -1 ∧ ¬ w = hI h 257 a 0 ∧ hI h 258 a 0 = 0)))) h)
  | _ => False
set_option maxRecDepth 20000 in
theorem ct_X2_isBreakAfter : CT yX2_isBreakAfter cX2_isBreakAfter 2 (some .boolean) 0 0 0 T_X2_isBreakAfter := by
  refine ct_ofE (by decide) (fun z av h P X hT hz hr => ?_) (fun av h P X hT => ?_)
  · unfold T_X2_isBreakAfter at hT
    split at hT
    · refine ⟨_, go_X2_isBreakAfter_0 hz hr, ?_⟩
      rename_i a w
      show wp_X2_isBreakAfter_0 P X [some (.ref a), some (.int w)] [] h
      obtain ⟨hk, hp⟩ := hT
      simp only [wp_X2_isBreakAfter_25, wp_X2_isBreakAfter_24, wp_X2_isBreakAfter_0, i_mmax, i_mmin, i_pushI, i_pushN, i_pushL, i_iload, i_aload, i_istore, i_astore, i_iinc, i_iadd, i_isub, i_imul, i_iand, i_ior, i_ixor, i_ishl, i_ishr, i_iushr, i_idiv, i_i2l, i_lcmp, i_dup, i_pop, i_dupx1, i_dup2, i_ifeq, i_ifne, i_iflt, i_ifge, i_ifgt, i_ifle, i_iceq, i_icne, i_iclt, i_icge, i_icgt, i_icle, i_ifnull, i_aceq, i_getI, i_getR, i_putI, i_putZ, i_putR, i_new, i_newarr, i_ald, i_lald, i_aald, i_alen, i_ast, i_zast, i_last, i_aast, i_aastL, i_cast, i_gste, i_ldcM, i_getC, i_acopy, i_dead, i_objinit, i_callV, i_callS, i_callI, i_iret, i_zret, i_aret, i_vret, i_throw, popN, pushO, lget, lset, isRf_ref, isRf_null, isRf_rf, isC1_int, isC1_ref, isC1_null, isC1_rf, true_and, and_true, List.length_cons, List.length_nil, Nat.reduceAdd, Nat.reduceLeDiff, hK_sI, hN_sI, hR_sI, hI_sI, hK_sR, hN_sR, hR_sR, hI_sR, kC_2, kC_3, kC_4, kC_5, kC_6, kC_7, kC_8, kC_9, kC_10, kC_11, kC_20, kC_21, kC_22, kC_23, i2_0, i1_1, i0_1, i1_0, bI_and, bI_0, Decidable.not_not, not_false_eq_true, not_true_eq_false, forall_const, false_implies, true_implies, hK_copy, hN_copy, hI_copy, hC_sI, hC_sR, hC_new, hK_new, hN_new, hI_new, hR_new, rf_some, rf_none, ex_ref, ex_null, ex_rf, nref_null, rf_null, Nat.reduceEqDiff, reduceCtorEq, false_and, and_false, if_false, if_true, ne_eq, kO_150, kO_151, kO_152, kO_170, kO_180, kO_190, Value.ref.injEq, exists_eq_left', false_or, hk]
      (repeat' (first | (apply And.intro) | (intro _)))
      all_goals first | exact hp | (rw [bI_t (by clear hp; grind)] at hp; exact hp) | (rw [bI_f (by clear hp; grind)] at hp; exact hp) | (simp_all; done)
    · exact hT.elim
  · unfold T_X2_isBreakAfter at hT
    split at hT
    · exact ⟨Nat.le_of_ble_eq_true rfl, by simp [isC1_int, isC1_ref, isC1_null, isC1_rf]⟩
    · exact hT.elim
def hballoon (h : hp_T) (q b : Nat) (n f l : Int32) : hp_T := hsI (hsI (hsR (hsI h 128 q 0 n) 131 q 0 (some b)) 129 q 0 f) 130 q 0 l
def hface (h : hp_T) (q b : Nat) (w c : Int32) : hp_T := hsI (hsI (hsR h 256 q 0 (some b)) 257 q 0 w) 258 q 0 c
def wp_X2_mirrored_0 (P : Option Value → hp_T → Prop) (X : String → hp_T → Prop) : KT :=
  i_new 4 (i_dup (i_aload 0 (i_getR 4 256 (i_callV 0 3 T_X1_mirrored noX (i_aload 0 (i_getI 4 257 (i_aload 0 (i_getI 4 258 (i_callI 3 T_X2_init noX (i_aret P))))))))))
set_option maxRecDepth 20000 in
theorem go_X2_mirrored_0 {z : zT} {P : Option Value → hp_T → Prop} {X : String → hp_T → Prop} (hz : Cx z cX2_mirrored 1 "Panelry$Face" "mirrored" 3 2 7) (hr : Rt z (some (.object "Panelry$Face")) P X 2 7) : Go z 0 0 0 (wp_X2_mirrored_0 P X) := 
  s_new hz kO_4 cls3 w606 w607 w51 rfl rfl dX2_mirrored_0 (s_dup hz dX2_mirrored_3 (s_aload_n hz rfl dX2_mirrored_4 (fg_RX2_9 hz dX2_mirrored_5 (s_callV hz ct_X1_mirrored ⟨w608, w598, w47, by decide, by decide, by decide +kernel⟩ w596 w597 cls2 rfl rfl rfl rfl rfl rfl out_no dX2_mirrored_8
    (s_aload_n hz rfl dX2_mirrored_11 (fg_RX2_15 hz dX2_mirrored_12 (s_aload_n hz rfl dX2_mirrored_15 (fg_RX2_19 hz dX2_mirrored_16 (s_callI hz ct_X2_init ⟨w609, w611, w51, by decide, by decide, by decide +kernel⟩ w610 rfl rfl rfl rfl rfl out_no dX2_mirrored_19
    (s_aret hz hr (Or.inl ⟨_, rfl⟩) rfl rfl dX2_mirrored_22))))))))))

def T_X2_mirrored : PT := fun av h P X => match av with
  | [.ref a] => (hK h a = 4 ∧ hR h 256 a 0 = some (dR h 256 a) ∧ hK h (dR h 256 a) = 3 ∧ hI h 258 a 0 &&& 1 = hI h 258 a 0) ∧ (∀ q, hK h q = 0 → ∀ q2, hK h q2 = 0 → ¬ q2 = q → P (some (.ref q)) (hface (hbox (hnew h q 4 0) q2 (60 - (hI h 192 (dR h 256 a) 0 + hI h 194 (dR h 256 a) 0)) (hI h 193 (dR h 256 a) 0) (hI h 194 (dR h 256 a) 0) (hI h 195 (dR h 256 a) 0)) q q2 (hI h 257 a 0) (hI h 258 a 0)))
  | _ => False
set_option maxRecDepth 20000 in
theorem ct_X2_mirrored : CT yX2_mirrored cX2_mirrored 1 (some (.object "Panelry$Face")) 3 2 7 T_X2_mirrored := by
  refine ct_ofE (by decide) (fun z av h P X hT hz hr => ?_) (fun av h P X hT => ?_)
  · unfold T_X2_mirrored at hT
    split at hT
    · refine ⟨_, go_X2_mirrored_0 hz hr, ?_⟩
      rename_i a
      show wp_X2_mirrored_0 P X [some (.ref a)] [] h
      obtain ⟨hk, hp⟩ := hT
      simp only [wp_X2_mirrored_0, T_X1_mirrored, T_X2_init, i_mmax, i_mmin, i_pushI, i_pushN, i_pushL, i_iload, i_aload, i_istore, i_astore, i_iinc, i_iadd, i_isub, i_imul, i_iand, i_ior, i_ixor, i_ishl, i_ishr, i_iushr, i_idiv, i_i2l, i_lcmp, i_dup, i_pop, i_dupx1, i_dup2, i_ifeq, i_ifne, i_iflt, i_ifge, i_ifgt, i_ifle, i_iceq, i_icne, i_iclt, i_icge, i_icgt, i_icle, i_ifnull, i_aceq, i_getI, i_getR, i_putI, i_putZ, i_putR, i_new, i_newarr, i_ald, i_lald, i_aald, i_alen, i_ast, i_zast, i_last, i_aast, i_aastL, i_cast, i_gste, i_ldcM, i_getC, i_acopy, i_dead, i_objinit, i_callV, i_callS, i_callI, i_iret, i_zret, i_aret, i_vret, i_throw, popN, pushO, lget, lset, isRf_ref, isRf_null, isRf_rf, isC1_int, isC1_ref, isC1_null, isC1_rf, true_and, and_true, List.length_cons, List.length_nil, Nat.reduceAdd, Nat.reduceLeDiff, hK_sI, hN_sI, hR_sI, hI_sI, hK_sR, hN_sR, hR_sR, hI_sR, kC_2, kC_3, kC_4, kC_5, kC_6, kC_7, kC_8, kC_9, kC_10, kC_11, kC_20, kC_21, kC_22, kC_23, i2_0, i1_1, i0_1, i1_0, bI_and, bI_0, Decidable.not_not, not_false_eq_true, not_true_eq_false, forall_const, false_implies, true_implies, hK_copy, hN_copy, hI_copy, hC_sI, hC_sR, hC_new, hK_new, hN_new, hI_new, hR_new, rf_some, rf_none, ex_ref, ex_null, ex_rf, nref_null, rf_null, Nat.reduceEqDiff, reduceCtorEq, false_and, and_false, if_false, if_true, ne_eq, kO_150, kO_151, kO_152, kO_170, kO_180, kO_190, Value.ref.injEq, exists_eq_left', false_or, hk]
      intro q hq
      have hne : ¬ a = q := fun e => by rw [e, hq] at hk; exact absurd hk.1 (by decide)
      have hne2 : ¬ dR h 256 a = q := fun e => by rw [e, hq] at hk; exact absurd hk.2.2.1 (by decide)
      simp only [hne, hne2, if_true, if_false, hk, kC_3, true_and, popN, pushO, isRf_ref, List.length_cons, List.length_nil, Nat.reduceAdd, Nat.reduceLeDiff, rf_some]
      intro q2 hq2
      by_cases e2 : q2 = q
      · simp [e2] at hq2
      · simp only [e2, if_false] at hq2
        have hne3 : ¬ a = q2 := fun e => by rw [e, hq2] at hk; exact absurd hk.1 (by decide)
        have hne4 : ¬ dR h 256 a = q2 := fun e => by rw [e, hq2] at hk; exact absurd hk.2.2.1 (by decide)
        have e3 : ¬ q = q2 := fun e => e2 e.symm
        simp only [hbox, hface, hballoon, hne, hne2, hne3, hne4, e2, e3, if_true, if_false, hk, i_mmax, i_mmin, i_pushI, i_pushN, i_pushL, i_iload, i_aload, i_istore, i_astore, i_iinc, i_iadd, i_isub, i_imul, i_iand, i_ior, i_ixor, i_ishl, i_ishr, i_iushr, i_idiv, i_i2l, i_lcmp, i_dup, i_pop, i_dupx1, i_dup2, i_ifeq, i_ifne, i_iflt, i_ifge, i_ifgt, i_ifle, i_iceq, i_icne, i_iclt, i_icge, i_icgt, i_icle, i_ifnull, i_aceq, i_getI, i_getR, i_putI, i_putZ, i_putR, i_new, i_newarr, i_ald, i_lald, i_aald, i_alen, i_ast, i_zast, i_last, i_aast, i_aastL, i_cast, i_gste, i_ldcM, i_getC, i_acopy, i_dead, i_objinit, i_callV, i_callS, i_callI, i_iret, i_zret, i_aret, i_vret, i_throw, popN, pushO, lget, lset, isRf_ref, isRf_null, isRf_rf, isC1_int, isC1_ref, isC1_null, isC1_rf, true_and, and_true, List.length_cons, List.length_nil, Nat.reduceAdd, Nat.reduceLeDiff, hK_sI, hN_sI, hR_sI, hI_sI, hK_sR, hN_sR, hR_sR, hI_sR, kC_2, kC_3, kC_4, kC_5, kC_6, kC_7, kC_8, kC_9, kC_10, kC_11, kC_20, kC_21, kC_22, kC_23, i2_0, i1_1, i0_1, i1_0, bI_and, bI_0, Decidable.not_not, not_false_eq_true, not_true_eq_false, forall_const, false_implies, true_implies, hK_copy, hN_copy, hI_copy, hC_sI, hC_sR, hC_new, hK_new, hN_new, hI_new, hR_new, rf_some, rf_none, ex_ref, ex_null, ex_rf, nref_null, rf_null, Nat.reduceEqDiff, reduceCtorEq, false_and, and_false, if_false, if_true, ne_eq, kO_150, kO_151, kO_152, kO_170, kO_180, kO_190, Value.ref.injEq, exists_eq_left', false_or] at hp ⊢
        (repeat' (first | (apply And.intro) | (intro _)))
        all_goals first | exact hp q hq q2 hq2 e2 | exact hp q hq q2 hq2 (fun e => e2 e) | exact hk.2.2.2
    · exact hT.elim
  · unfold T_X2_mirrored at hT
    split at hT
    · exact ⟨Nat.le_of_ble_eq_true rfl, by simp [isC1_int, isC1_ref, isC1_null, isC1_rf]⟩
    · exact hT.elim
def wp_X0_init_0 (P : Option Value → hp_T → Prop) (X : String → hp_T → Prop) : KT :=
  i_aload 0 (i_objinit (i_aload 0 (i_iload 1 (i_putI 2 128 (i_aload 0 (i_aload 2 (i_putR 2 131 (i_aload 0 (i_iload 3 (i_putI 2 129 (i_aload 0 (i_iload 4 (i_putI 2 130 (i_vret P))))))))))))))
set_option maxRecDepth 20000 in
theorem go_X0_init_0 {z : zT} {P : Option Value → hp_T → Prop} {X : String → hp_T → Prop} (hz : Cx z cX0_init 5 "Panelry$Balloon" "<init>" 1 0 0) (hr : Rt z none P X 0 0) : Go z 0 0 0 (wp_X0_init_0 P X) := 
  s_aload_n hz rfl dX0_init_0 (s_objinit hz w642 w61 w62 rfl dX0_init_1 (s_aload_n hz rfl dX0_init_4 (s_iload_n hz rfl dX0_init_5 (fp_RX0_9 hz dX0_init_6 (s_aload_n hz rfl dX0_init_9 (s_aload_n hz rfl dX0_init_10
    (fp_RX0_15 hz dX0_init_11 (s_aload_n hz rfl dX0_init_14 (s_iload_n hz rfl dX0_init_15 (fp_RX0_19 hz dX0_init_16 (s_aload_n hz rfl dX0_init_19 (s_iload hz dX0_init_20 (fp_RX0_22 hz dX0_init_22
    (s_vret hz hr rfl rfl dX0_init_25))))))))))))))

def T_X0_init : PT := fun av h P X => match av with
  | [.ref a, .int n, .ref b, .int f, .int l] => (hK h a = 2) ∧ (P none (hsI (hsI (hsR (hsI h 128 a 0 n) 131 a 0 (some b)) 129 a 0 f) 130 a 0 l))
  | _ => False
set_option maxRecDepth 20000 in
theorem ct_X0_init : CT yX0_init cX0_init 5 none 1 0 0 T_X0_init := by
  refine ct_ofE (by decide) (fun z av h P X hT hz hr => ?_) (fun av h P X hT => ?_)
  · unfold T_X0_init at hT
    split at hT
    · refine ⟨_, go_X0_init_0 hz hr, ?_⟩
      rename_i a n b f l
      show wp_X0_init_0 P X [some (.ref a), some (.int n), some (.ref b), some (.int f), some (.int l)] [] h
      obtain ⟨hk, hp⟩ := hT
      simp only [wp_X0_init_0, i_mmax, i_mmin, i_pushI, i_pushN, i_pushL, i_iload, i_aload, i_istore, i_astore, i_iinc, i_iadd, i_isub, i_imul, i_iand, i_ior, i_ixor, i_ishl, i_ishr, i_iushr, i_idiv, i_i2l, i_lcmp, i_dup, i_pop, i_dupx1, i_dup2, i_ifeq, i_ifne, i_iflt, i_ifge, i_ifgt, i_ifle, i_iceq, i_icne, i_iclt, i_icge, i_icgt, i_icle, i_ifnull, i_aceq, i_getI, i_getR, i_putI, i_putZ, i_putR, i_new, i_newarr, i_ald, i_lald, i_aald, i_alen, i_ast, i_zast, i_last, i_aast, i_aastL, i_cast, i_gste, i_ldcM, i_getC, i_acopy, i_dead, i_objinit, i_callV, i_callS, i_callI, i_iret, i_zret, i_aret, i_vret, i_throw, popN, pushO, lget, lset, isRf_ref, isRf_null, isRf_rf, isC1_int, isC1_ref, isC1_null, isC1_rf, true_and, and_true, List.length_cons, List.length_nil, Nat.reduceAdd, Nat.reduceLeDiff, hK_sI, hN_sI, hR_sI, hI_sI, hK_sR, hN_sR, hR_sR, hI_sR, kC_2, kC_3, kC_4, kC_5, kC_6, kC_7, kC_8, kC_9, kC_10, kC_11, kC_20, kC_21, kC_22, kC_23, i2_0, i1_1, i0_1, i1_0, bI_and, bI_0, Decidable.not_not, not_false_eq_true, not_true_eq_false, forall_const, false_implies, true_implies, hK_copy, hN_copy, hI_copy, hC_sI, hC_sR, hC_new, hK_new, hN_new, hI_new, hR_new, rf_some, rf_none, ex_ref, ex_null, ex_rf, nref_null, rf_null, Nat.reduceEqDiff, reduceCtorEq, false_and, and_false, if_false, if_true, ne_eq, kO_150, kO_151, kO_152, kO_170, kO_180, kO_190, Value.ref.injEq, exists_eq_left', false_or, hk]
      (repeat' (first | (apply And.intro) | (intro _)))
      all_goals first | exact hp | (rw [bI_t (by clear hp; grind)] at hp; exact hp) | (rw [bI_f (by clear hp; grind)] at hp; exact hp) | (simp_all; done)
    · exact hT.elim
  · unfold T_X0_init at hT
    split at hT
    · exact ⟨Nat.le_of_ble_eq_true rfl, by simp [isC1_int, isC1_ref, isC1_null, isC1_rf]⟩
    · exact hT.elim
def wp_X0_fitsItsLetters_31 (P : Option Value → hp_T → Prop) (X : String → hp_T → Prop) : KT :=
  i_zret P
set_option maxRecDepth 20000 in
theorem go_X0_fitsItsLetters_31 {z : zT} {P : Option Value → hp_T → Prop} {X : String → hp_T → Prop} (hz : Cx z cX0_fitsItsLetters 1 "Panelry$Balloon" "fitsItsLetters" 0 0 0) (hr : Rt z (some .boolean) P X 0 0) : Go z 0 0 31 (wp_X0_fitsItsLetters_31 P X) := 
  s_zret hz hr rfl rfl dX0_fitsItsLetters_31
def wp_X0_fitsItsLetters_0 (P : Option Value → hp_T → Prop) (X : String → hp_T → Prop) : KT :=
  i_pushI 4 (i_aload 0 (i_getI 2 130 (i_imul (i_aload 0 (i_getR 2 131 (i_getI 3 194 (i_aload 0 (i_getR 2 131 (i_getI 3 195 (i_imul (i_pushI 2 (i_idiv (i_icgt (i_pushI 0 (wp_X0_fitsItsLetters_31 P X))
    (i_pushI 1 (wp_X0_fitsItsLetters_31 P X)))))))))))))))
set_option maxRecDepth 20000 in
theorem go_X0_fitsItsLetters_0 {z : zT} {P : Option Value → hp_T → Prop} {X : String → hp_T → Prop} (hz : Cx z cX0_fitsItsLetters 1 "Panelry$Balloon" "fitsItsLetters" 0 0 0) (hr : Rt z (some .boolean) P X 0 0) : Go z 0 0 0 (wp_X0_fitsItsLetters_0 P X) := 
  s_iconst hz rfl dX0_fitsItsLetters_0 (s_aload_n hz rfl dX0_fitsItsLetters_1 (fg_RX0_22 hz dX0_fitsItsLetters_2 (s_imul hz dX0_fitsItsLetters_5 (s_aload_n hz rfl dX0_fitsItsLetters_6
    (fg_RX0_15 hz dX0_fitsItsLetters_7 (fg_RX0_25 hz dX0_fitsItsLetters_10 (s_aload_n hz rfl dX0_fitsItsLetters_13 (fg_RX0_15 hz dX0_fitsItsLetters_14 (fg_RX0_30 hz dX0_fitsItsLetters_17
    (s_imul hz dX0_fitsItsLetters_20 (s_iconst hz rfl dX0_fitsItsLetters_21 (s_idiv hz dX0_fitsItsLetters_22 (s_icgt hz (tgt := 30) rfl dX0_fitsItsLetters_23 (s_iconst hz rfl dX0_fitsItsLetters_30
    (go_X0_fitsItsLetters_31 hz hr)) (s_iconst hz rfl dX0_fitsItsLetters_26 (s_goto hz (tgt := 31) rfl dX0_fitsItsLetters_27 (go_X0_fitsItsLetters_31 hz hr))))))))))))))))

def T_X0_fitsItsLetters : PT := fun av h P X => match av with
  | [.ref a] => (hK h a = 2 ∧ hR h 131 a 0 = some (dR h 131 a) ∧ hK h (dR h 131 a) = 3) ∧ (P (some (.int (bI (4 * hI h 130 a 0 ≤ hI h 194 (dR h 131 a) 0 * hI h 195 (dR h 131 a) 0 / 2)))) h)
  | _ => False
set_option maxRecDepth 20000 in
theorem ct_X0_fitsItsLetters : CT yX0_fitsItsLetters cX0_fitsItsLetters 1 (some .boolean) 0 0 0 T_X0_fitsItsLetters := by
  refine ct_ofE (by decide) (fun z av h P X hT hz hr => ?_) (fun av h P X hT => ?_)
  · unfold T_X0_fitsItsLetters at hT
    split at hT
    · refine ⟨_, go_X0_fitsItsLetters_0 hz hr, ?_⟩
      rename_i a
      show wp_X0_fitsItsLetters_0 P X [some (.ref a)] [] h
      obtain ⟨hk, hp⟩ := hT
      simp only [wp_X0_fitsItsLetters_31, wp_X0_fitsItsLetters_0, i_mmax, i_mmin, i_pushI, i_pushN, i_pushL, i_iload, i_aload, i_istore, i_astore, i_iinc, i_iadd, i_isub, i_imul, i_iand, i_ior, i_ixor, i_ishl, i_ishr, i_iushr, i_idiv, i_i2l, i_lcmp, i_dup, i_pop, i_dupx1, i_dup2, i_ifeq, i_ifne, i_iflt, i_ifge, i_ifgt, i_ifle, i_iceq, i_icne, i_iclt, i_icge, i_icgt, i_icle, i_ifnull, i_aceq, i_getI, i_getR, i_putI, i_putZ, i_putR, i_new, i_newarr, i_ald, i_lald, i_aald, i_alen, i_ast, i_zast, i_last, i_aast, i_aastL, i_cast, i_gste, i_ldcM, i_getC, i_acopy, i_dead, i_objinit, i_callV, i_callS, i_callI, i_iret, i_zret, i_aret, i_vret, i_throw, popN, pushO, lget, lset, isRf_ref, isRf_null, isRf_rf, isC1_int, isC1_ref, isC1_null, isC1_rf, true_and, and_true, List.length_cons, List.length_nil, Nat.reduceAdd, Nat.reduceLeDiff, hK_sI, hN_sI, hR_sI, hI_sI, hK_sR, hN_sR, hR_sR, hI_sR, kC_2, kC_3, kC_4, kC_5, kC_6, kC_7, kC_8, kC_9, kC_10, kC_11, kC_20, kC_21, kC_22, kC_23, i2_0, i1_1, i0_1, i1_0, bI_and, bI_0, Decidable.not_not, not_false_eq_true, not_true_eq_false, forall_const, false_implies, true_implies, hK_copy, hN_copy, hI_copy, hC_sI, hC_sR, hC_new, hK_new, hN_new, hI_new, hR_new, rf_some, rf_none, ex_ref, ex_null, ex_rf, nref_null, rf_null, Nat.reduceEqDiff, reduceCtorEq, false_and, and_false, if_false, if_true, ne_eq, kO_150, kO_151, kO_152, kO_170, kO_180, kO_190, Value.ref.injEq, exists_eq_left', false_or, hk]
      (repeat' (first | (apply And.intro) | (intro _)))
      all_goals first | exact hp | (rw [bI_t (by clear hp; grind)] at hp; exact hp) | (rw [bI_f (by clear hp; grind)] at hp; exact hp) | (simp_all; done)
    · exact hT.elim
  · unfold T_X0_fitsItsLetters at hT
    split at hT
    · exact ⟨Nat.le_of_ble_eq_true rfl, by simp [isC1_int, isC1_ref, isC1_null, isC1_rf]⟩
    · exact hT.elim
abbrev bEarly (h : hp_T) (a b : Nat) (l : Int32) : Prop := hI h 193 a 0 < hI h 193 b 0 ∨ (hI h 193 a 0 = hI h 193 b 0 ∧ (if l = 0 then hI h 192 a 0 < hI h 192 b 0 else hI h 192 b 0 + hI h 194 b 0 < hI h 192 a 0 + hI h 194 a 0))
def wp_X0_standsAheadOf_39 (P : Option Value → hp_T → Prop) (X : String → hp_T → Prop) : KT :=
  i_zret P
set_option maxRecDepth 20000 in
theorem go_X0_standsAheadOf_39 {z : zT} {P : Option Value → hp_T → Prop} {X : String → hp_T → Prop} (hz : Cx z cX0_standsAheadOf 3 "Panelry$Balloon" "standsAheadOf" 1 0 0) (hr : Rt z (some .boolean) P X 0 0) : Go z 0 0 39 (wp_X0_standsAheadOf_39 P X) := 
  s_zret hz hr rfl rfl dX0_standsAheadOf_39
def wp_X0_standsAheadOf_91 (P : Option Value → hp_T → Prop) (X : String → hp_T → Prop) : KT :=
  i_zret P
set_option maxRecDepth 20000 in
theorem go_X0_standsAheadOf_91 {z : zT} {P : Option Value → hp_T → Prop} {X : String → hp_T → Prop} (hz : Cx z cX0_standsAheadOf 3 "Panelry$Balloon" "standsAheadOf" 1 0 0) (hr : Rt z (some .boolean) P X 0 0) : Go z 0 0 91 (wp_X0_standsAheadOf_91 P X) := 
  s_zret hz hr rfl rfl dX0_standsAheadOf_91
def wp_X0_standsAheadOf_0 (P : Option Value → hp_T → Prop) (X : String → hp_T → Prop) : KT :=
  i_aload 0 (i_getR 2 131 (i_getI 3 193 (i_aload 1 (i_getR 2 131 (i_getI 3 193 (i_iceq (i_iload 2 (i_ifeq (i_aload 0 (i_getR 2 131 (i_getI 3 192 (i_aload 1 (i_getR 2 131 (i_getI 3 192
    (i_icge (i_pushI 0 (wp_X0_standsAheadOf_91 P X)) (i_pushI 1 (wp_X0_standsAheadOf_91 P X))))))))) (i_aload 0 (i_getR 2 131 (i_callV 0 3 T_X1_endX noX (i_aload 1 (i_getR 2 131 (i_callV 0 3 T_X1_endX noX
    (i_icle (i_pushI 0 (wp_X0_standsAheadOf_91 P X)) (i_pushI 1 (wp_X0_standsAheadOf_91 P X))))))))))) (i_aload 0 (i_getR 2 131 (i_getI 3 193 (i_aload 1 (i_getR 2 131 (i_getI 3 193 (i_icge
    (i_pushI 0 (wp_X0_standsAheadOf_39 P X)) (i_pushI 1 (wp_X0_standsAheadOf_39 P X)))))))))))))))
set_option maxRecDepth 20000 in
theorem go_X0_standsAheadOf_0 {z : zT} {P : Option Value → hp_T → Prop} {X : String → hp_T → Prop} (hz : Cx z cX0_standsAheadOf 3 "Panelry$Balloon" "standsAheadOf" 1 0 0) (hr : Rt z (some .boolean) P X 0 0) : Go z 0 0 0 (wp_X0_standsAheadOf_0 P X) := 
  s_aload_n hz rfl dX0_standsAheadOf_0 (fg_RX0_15 hz dX0_standsAheadOf_1 (fg_RX0_33 hz dX0_standsAheadOf_4 (s_aload_n hz rfl dX0_standsAheadOf_7 (fg_RX0_15 hz dX0_standsAheadOf_8 (fg_RX0_33 hz dX0_standsAheadOf_11
    (s_iceq hz (tgt := 40) rfl dX0_standsAheadOf_14 (s_iload_n hz rfl dX0_standsAheadOf_40 (s_ifeq hz (tgt := 69) rfl dX0_standsAheadOf_41 (s_aload_n hz rfl dX0_standsAheadOf_69 (fg_RX0_15 hz dX0_standsAheadOf_70
    (fg_RX0_40 hz dX0_standsAheadOf_73 (s_aload_n hz rfl dX0_standsAheadOf_76 (fg_RX0_15 hz dX0_standsAheadOf_77 (fg_RX0_40 hz dX0_standsAheadOf_80 (s_icge hz (tgt := 90) rfl dX0_standsAheadOf_83
    (s_iconst hz rfl dX0_standsAheadOf_90 (go_X0_standsAheadOf_91 hz hr)) (s_iconst hz rfl dX0_standsAheadOf_86 (s_goto hz (tgt := 91) rfl dX0_standsAheadOf_87 (go_X0_standsAheadOf_91 hz hr))))))))))
    (s_aload_n hz rfl dX0_standsAheadOf_44 (fg_RX0_15 hz dX0_standsAheadOf_45 (s_callV hz ct_X1_endX ⟨w813, w477, w47, by decide, by decide, by decide +kernel⟩ w475 w476 cls2 rfl rfl rfl rfl rfl rfl out_no dX0_standsAheadOf_48
    (s_aload_n hz rfl dX0_standsAheadOf_51 (fg_RX0_15 hz dX0_standsAheadOf_52 (s_callV hz ct_X1_endX ⟨w813, w477, w47, by decide, by decide, by decide +kernel⟩ w475 w476 cls2 rfl rfl rfl rfl rfl rfl out_no dX0_standsAheadOf_55
    (s_icle hz (tgt := 65) rfl dX0_standsAheadOf_58 (s_iconst hz rfl dX0_standsAheadOf_65 (s_goto hz (tgt := 91) rfl dX0_standsAheadOf_66 (go_X0_standsAheadOf_91 hz hr))) (s_iconst hz rfl dX0_standsAheadOf_61
    (s_goto hz (tgt := 91) rfl dX0_standsAheadOf_62 (go_X0_standsAheadOf_91 hz hr)))))))))))) (s_aload_n hz rfl dX0_standsAheadOf_17 (fg_RX0_15 hz dX0_standsAheadOf_18 (fg_RX0_33 hz dX0_standsAheadOf_21
    (s_aload_n hz rfl dX0_standsAheadOf_24 (fg_RX0_15 hz dX0_standsAheadOf_25 (fg_RX0_33 hz dX0_standsAheadOf_28 (s_icge hz (tgt := 38) rfl dX0_standsAheadOf_31 (s_iconst hz rfl dX0_standsAheadOf_38
    (go_X0_standsAheadOf_39 hz hr)) (s_iconst hz rfl dX0_standsAheadOf_34 (s_goto hz (tgt := 39) rfl dX0_standsAheadOf_35 (go_X0_standsAheadOf_39 hz hr))))))))))))))))

def T_X0_standsAheadOf : PT := fun av h P X => match av with
  | [.ref a, .ref b, .int l] => ((hK h a = 2 ∧ hR h 131 a 0 = some (dR h 131 a) ∧ hK h (dR h 131 a) = 3) ∧ (hK h b = 2 ∧ hR h 131 b 0 = some (dR h 131 b) ∧ hK h (dR h 131 b) = 3)) ∧ (P (some (.int (bI (bEarly h (dR h 131 a) (dR h 131 b) l)))) h)
  | _ => False
set_option maxRecDepth 20000 in
theorem ct_X0_standsAheadOf : CT yX0_standsAheadOf cX0_standsAheadOf 3 (some .boolean) 1 0 0 T_X0_standsAheadOf := by
  refine ct_ofE (by decide) (fun z av h P X hT hz hr => ?_) (fun av h P X hT => ?_)
  · unfold T_X0_standsAheadOf at hT
    split at hT
    · refine ⟨_, go_X0_standsAheadOf_0 hz hr, ?_⟩
      rename_i a b l
      show wp_X0_standsAheadOf_0 P X [some (.ref a), some (.ref b), some (.int l)] [] h
      obtain ⟨hk, hp⟩ := hT
      simp only [wp_X0_standsAheadOf_39, wp_X0_standsAheadOf_91, wp_X0_standsAheadOf_0, T_X1_endX, i_mmax, i_mmin, i_pushI, i_pushN, i_pushL, i_iload, i_aload, i_istore, i_astore, i_iinc, i_iadd, i_isub, i_imul, i_iand, i_ior, i_ixor, i_ishl, i_ishr, i_iushr, i_idiv, i_i2l, i_lcmp, i_dup, i_pop, i_dupx1, i_dup2, i_ifeq, i_ifne, i_iflt, i_ifge, i_ifgt, i_ifle, i_iceq, i_icne, i_iclt, i_icge, i_icgt, i_icle, i_ifnull, i_aceq, i_getI, i_getR, i_putI, i_putZ, i_putR, i_new, i_newarr, i_ald, i_lald, i_aald, i_alen, i_ast, i_zast, i_last, i_aast, i_aastL, i_cast, i_gste, i_ldcM, i_getC, i_acopy, i_dead, i_objinit, i_callV, i_callS, i_callI, i_iret, i_zret, i_aret, i_vret, i_throw, popN, pushO, lget, lset, isRf_ref, isRf_null, isRf_rf, isC1_int, isC1_ref, isC1_null, isC1_rf, true_and, and_true, List.length_cons, List.length_nil, Nat.reduceAdd, Nat.reduceLeDiff, hK_sI, hN_sI, hR_sI, hI_sI, hK_sR, hN_sR, hR_sR, hI_sR, kC_2, kC_3, kC_4, kC_5, kC_6, kC_7, kC_8, kC_9, kC_10, kC_11, kC_20, kC_21, kC_22, kC_23, i2_0, i1_1, i0_1, i1_0, bI_and, bI_0, Decidable.not_not, not_false_eq_true, not_true_eq_false, forall_const, false_implies, true_implies, hK_copy, hN_copy, hI_copy, hC_sI, hC_sR, hC_new, hK_new, hN_new, hI_new, hR_new, rf_some, rf_none, ex_ref, ex_null, ex_rf, nref_null, rf_null, Nat.reduceEqDiff, reduceCtorEq, false_and, and_false, if_false, if_true, ne_eq, kO_150, kO_151, kO_152, kO_170, kO_180, kO_190, Value.ref.injEq, exists_eq_left', false_or, hk]
      (repeat' (first | (apply And.intro) | (intro _)))
      all_goals first | exact hp | (rw [bI_t (by clear hp; grind)] at hp; exact hp) | (rw [bI_f (by clear hp; grind)] at hp; exact hp) | (simp_all; done)
    · exact hT.elim
  · unfold T_X0_standsAheadOf at hT
    split at hT
    · exact ⟨Nat.le_of_ble_eq_true rfl, by simp [isC1_int, isC1_ref, isC1_null, isC1_rf]⟩
    · exact hT.elim
def wp_X0_mirrored_0 (P : Option Value → hp_T → Prop) (X : String → hp_T → Prop) : KT :=
  i_new 2 (i_dup (i_aload 0 (i_getI 2 128 (i_aload 0 (i_getR 2 131 (i_callV 0 3 T_X1_mirrored noX (i_aload 0 (i_getI 2 129 (i_aload 0 (i_getI 2 130 (i_callI 4 T_X0_init noX (i_aret P))))))))))))
set_option maxRecDepth 20000 in
theorem go_X0_mirrored_0 {z : zT} {P : Option Value → hp_T → Prop} {X : String → hp_T → Prop} (hz : Cx z cX0_mirrored 1 "Panelry$Balloon" "mirrored" 3 2 8) (hr : Rt z (some (.object "Panelry$Balloon")) P X 2 8) : Go z 0 0 0 (wp_X0_mirrored_0 P X) := 
  s_new hz kO_2 cls1 w636 w637 w52 rfl rfl dX0_mirrored_0 (s_dup hz dX0_mirrored_3 (s_aload_n hz rfl dX0_mirrored_4 (fg_RX0_9 hz dX0_mirrored_5 (s_aload_n hz rfl dX0_mirrored_8 (fg_RX0_15 hz dX0_mirrored_9
    (s_callV hz ct_X1_mirrored ⟨w638, w598, w47, by decide, by decide, by decide +kernel⟩ w596 w597 cls2 rfl rfl rfl rfl rfl rfl out_no dX0_mirrored_12 (s_aload_n hz rfl dX0_mirrored_15 (fg_RX0_19 hz dX0_mirrored_16
    (s_aload_n hz rfl dX0_mirrored_19 (fg_RX0_22 hz dX0_mirrored_20 (s_callI hz ct_X0_init ⟨w639, w641, w52, by decide, by decide, by decide +kernel⟩ w640 rfl rfl rfl rfl rfl out_no dX0_mirrored_23
    (s_aret hz hr (Or.inl ⟨_, rfl⟩) rfl rfl dX0_mirrored_26))))))))))))

def T_X0_mirrored : PT := fun av h P X => match av with
  | [.ref a] => (hK h a = 2 ∧ hR h 131 a 0 = some (dR h 131 a) ∧ hK h (dR h 131 a) = 3) ∧ (∀ q, hK h q = 0 → ∀ q2, hK h q2 = 0 → ¬ q2 = q → P (some (.ref q)) (hballoon (hbox (hnew h q 2 0) q2 (60 - (hI h 192 (dR h 131 a) 0 + hI h 194 (dR h 131 a) 0)) (hI h 193 (dR h 131 a) 0) (hI h 194 (dR h 131 a) 0) (hI h 195 (dR h 131 a) 0)) q q2 (hI h 128 a 0) (hI h 129 a 0) (hI h 130 a 0)))
  | _ => False
set_option maxRecDepth 20000 in
theorem ct_X0_mirrored : CT yX0_mirrored cX0_mirrored 1 (some (.object "Panelry$Balloon")) 3 2 8 T_X0_mirrored := by
  refine ct_ofE (by decide) (fun z av h P X hT hz hr => ?_) (fun av h P X hT => ?_)
  · unfold T_X0_mirrored at hT
    split at hT
    · refine ⟨_, go_X0_mirrored_0 hz hr, ?_⟩
      rename_i a
      show wp_X0_mirrored_0 P X [some (.ref a)] [] h
      obtain ⟨hk, hp⟩ := hT
      simp only [wp_X0_mirrored_0, T_X1_mirrored, T_X0_init, i_mmax, i_mmin, i_pushI, i_pushN, i_pushL, i_iload, i_aload, i_istore, i_astore, i_iinc, i_iadd, i_isub, i_imul, i_iand, i_ior, i_ixor, i_ishl, i_ishr, i_iushr, i_idiv, i_i2l, i_lcmp, i_dup, i_pop, i_dupx1, i_dup2, i_ifeq, i_ifne, i_iflt, i_ifge, i_ifgt, i_ifle, i_iceq, i_icne, i_iclt, i_icge, i_icgt, i_icle, i_ifnull, i_aceq, i_getI, i_getR, i_putI, i_putZ, i_putR, i_new, i_newarr, i_ald, i_lald, i_aald, i_alen, i_ast, i_zast, i_last, i_aast, i_aastL, i_cast, i_gste, i_ldcM, i_getC, i_acopy, i_dead, i_objinit, i_callV, i_callS, i_callI, i_iret, i_zret, i_aret, i_vret, i_throw, popN, pushO, lget, lset, isRf_ref, isRf_null, isRf_rf, isC1_int, isC1_ref, isC1_null, isC1_rf, true_and, and_true, List.length_cons, List.length_nil, Nat.reduceAdd, Nat.reduceLeDiff, hK_sI, hN_sI, hR_sI, hI_sI, hK_sR, hN_sR, hR_sR, hI_sR, kC_2, kC_3, kC_4, kC_5, kC_6, kC_7, kC_8, kC_9, kC_10, kC_11, kC_20, kC_21, kC_22, kC_23, i2_0, i1_1, i0_1, i1_0, bI_and, bI_0, Decidable.not_not, not_false_eq_true, not_true_eq_false, forall_const, false_implies, true_implies, hK_copy, hN_copy, hI_copy, hC_sI, hC_sR, hC_new, hK_new, hN_new, hI_new, hR_new, rf_some, rf_none, ex_ref, ex_null, ex_rf, nref_null, rf_null, Nat.reduceEqDiff, reduceCtorEq, false_and, and_false, if_false, if_true, ne_eq, kO_150, kO_151, kO_152, kO_170, kO_180, kO_190, Value.ref.injEq, exists_eq_left', false_or, hk]
      intro q hq
      have hne : ¬ a = q := fun e => by rw [e, hq] at hk; exact absurd hk.1 (by decide)
      have hne2 : ¬ dR h 131 a = q := fun e => by rw [e, hq] at hk; exact absurd hk.2.2 (by decide)
      simp only [hne, hne2, if_true, if_false, hk, kC_3, true_and, popN, pushO, isRf_ref, List.length_cons, List.length_nil, Nat.reduceAdd, Nat.reduceLeDiff, rf_some]
      intro q2 hq2
      by_cases e2 : q2 = q
      · simp [e2] at hq2
      · simp only [e2, if_false] at hq2
        have hne3 : ¬ a = q2 := fun e => by rw [e, hq2] at hk; exact absurd hk.1 (by decide)
        have hne4 : ¬ dR h 131 a = q2 := fun e => by rw [e, hq2] at hk; exact absurd hk.2.2 (by decide)
        have e3 : ¬ q = q2 := fun e => e2 e.symm
        simp only [hbox, hface, hballoon, hne, hne2, hne3, hne4, e2, e3, if_true, if_false, hk, i_mmax, i_mmin, i_pushI, i_pushN, i_pushL, i_iload, i_aload, i_istore, i_astore, i_iinc, i_iadd, i_isub, i_imul, i_iand, i_ior, i_ixor, i_ishl, i_ishr, i_iushr, i_idiv, i_i2l, i_lcmp, i_dup, i_pop, i_dupx1, i_dup2, i_ifeq, i_ifne, i_iflt, i_ifge, i_ifgt, i_ifle, i_iceq, i_icne, i_iclt, i_icge, i_icgt, i_icle, i_ifnull, i_aceq, i_getI, i_getR, i_putI, i_putZ, i_putR, i_new, i_newarr, i_ald, i_lald, i_aald, i_alen, i_ast, i_zast, i_last, i_aast, i_aastL, i_cast, i_gste, i_ldcM, i_getC, i_acopy, i_dead, i_objinit, i_callV, i_callS, i_callI, i_iret, i_zret, i_aret, i_vret, i_throw, popN, pushO, lget, lset, isRf_ref, isRf_null, isRf_rf, isC1_int, isC1_ref, isC1_null, isC1_rf, true_and, and_true, List.length_cons, List.length_nil, Nat.reduceAdd, Nat.reduceLeDiff, hK_sI, hN_sI, hR_sI, hI_sI, hK_sR, hN_sR, hR_sR, hI_sR, kC_2, kC_3, kC_4, kC_5, kC_6, kC_7, kC_8, kC_9, kC_10, kC_11, kC_20, kC_21, kC_22, kC_23, i2_0, i1_1, i0_1, i1_0, bI_and, bI_0, Decidable.not_not, not_false_eq_true, not_true_eq_false, forall_const, false_implies, true_implies, hK_copy, hN_copy, hI_copy, hC_sI, hC_sR, hC_new, hK_new, hN_new, hI_new, hR_new, rf_some, rf_none, ex_ref, ex_null, ex_rf, nref_null, rf_null, Nat.reduceEqDiff, reduceCtorEq, false_and, and_false, if_false, if_true, ne_eq, kO_150, kO_151, kO_152, kO_170, kO_180, kO_190, Value.ref.injEq, exists_eq_left', false_or] at hp ⊢
        (repeat' (first | (apply And.intro) | (intro _)))
        all_goals first | exact hp q hq q2 hq2 e2 | exact hp q hq q2 hq2 (fun e => e2 e)
    · exact hT.elim
  · unfold T_X0_mirrored at hT
    split at hT
    · exact ⟨Nat.le_of_ble_eq_true rfl, by simp [isC1_int, isC1_ref, isC1_null, isC1_rf]⟩
    · exact hT.elim
