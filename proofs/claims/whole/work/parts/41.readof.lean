def hread (h : hp_T) (r a o : Nat) (l : Int32) : hp_T := hfill (hsI (hsR (hsR (hnew h o 150 8) 450 r 0 (some o)) 448 r 0 (some a)) 449 r 0 l) 150 o 8 (-1)
theorem iF150 : isF 150 := by simp [isF]
def wp_X5_init_0 (P : Option Value → hp_T → Prop) (X : String → hp_T → Prop) : KT :=
  i_aload 0 (i_objinit (i_aload 0 (i_pushI 8 (i_newarr 150 8 (i_putR 7 450 (i_aload 0 (i_aload 1 (i_putR 7 448 (i_aload 0 (i_iload 2 (i_putZ 7 449 (i_aload 0 (i_getR 7 450 (i_pushI (-1)
    (i_callS 2 T_J7_fill_53178 noX (i_vret P))))))))))))))))
set_option maxRecDepth 20000 in
theorem go_X5_init_0 {z : zT} {P : Option Value → hp_T → Prop} {X : String → hp_T → Prop} (hz : Cx z cX5_init 3 "Panelry$Reading" "<init>" 1 1 8) (hr : Rt z none P X 1 8) : Go z 0 0 0 (wp_X5_init_0 P X) := 
  s_aload_n hz rfl dX5_init_0 (s_objinit hz w143 w61 w62 rfl dX5_init_1 (s_aload_n hz rfl dX5_init_4 (s_bipush hz rfl dX5_init_5 (s_newarr (at0 := .int) (ty := .int) hz rfl rfl rfl rfl
    (Or.inl ⟨rfl, rfl⟩) w162 rfl rfl rfl dX5_init_7 (fp_RX5_9 hz dX5_init_9 (s_aload_n hz rfl dX5_init_12 (s_aload_n hz rfl dX5_init_13 (fp_RX5_15 hz dX5_init_14 (s_aload_n hz rfl dX5_init_17
    (s_iload_n hz rfl dX5_init_18 (fp_RX5_19 hz dX5_init_19 (s_aload_n hz rfl dX5_init_22 (fg_RX5_9 hz dX5_init_23 (s_iconst hz rfl dX5_init_26 (s_callS hz ct_J7_fill_53178 ⟨w144, w111, w41, by decide, by decide, by decide +kernel⟩ w110 rfl rfl rfl rfl out_no dX5_init_27
    (s_vret hz hr rfl rfl dX5_init_30))))))))))))))))

def T_X5_init : PT := fun av h P X => match av with
  | [.ref r, .ref a, .int l] => (hK h r = 7 ∧ hK h a = 5 ∧ l &&& 1 = l) ∧ (∀ o, hK h o = 0 → P none (hread h r a o l))
  | _ => False
set_option maxRecDepth 20000 in
theorem ct_X5_init : CT yX5_init cX5_init 3 none 1 1 8 T_X5_init := by
  refine ct_ofE (by decide) (fun z av h P X hT hz hr => ?_) (fun av h P X hT => ?_)
  · unfold T_X5_init at hT
    split at hT
    · refine ⟨_, go_X5_init_0 hz hr, ?_⟩
      rename_i r a l
      show wp_X5_init_0 P X [some (.ref r), some (.ref a), some (.int l)] [] h
      obtain ⟨hk, hp⟩ := hT
      obtain ⟨k1, k2, k3⟩ := hk
      simp only [wp_X5_init_0, T_J7_fill_53178, k1, k2, k3, i_mmax, i_mmin, i_pushI, i_pushN, i_pushL, i_iload, i_aload, i_istore, i_astore, i_iinc, i_iadd, i_isub, i_imul, i_iand, i_ior, i_ixor, i_ishl, i_ishr, i_iushr, i_idiv, i_i2l, i_lcmp, i_dup, i_pop, i_dupx1, i_dup2, i_ifeq, i_ifne, i_iflt, i_ifge, i_ifgt, i_ifle, i_iceq, i_icne, i_iclt, i_icge, i_icgt, i_icle, i_ifnull, i_aceq, i_getI, i_getR, i_putI, i_putZ, i_putR, i_new, i_newarr, i_ald, i_lald, i_aald, i_alen, i_ast, i_zast, i_last, i_aast, i_aastL, i_cast, i_gste, i_ldcM, i_getC, i_acopy, i_dead, i_objinit, i_callV, i_callS, i_callI, i_iret, i_zret, i_aret, i_vret, i_throw, popN, pushO, lget, lset, isRf_ref, isRf_null, isRf_rf, isC1_int, isC1_ref, isC1_null, isC1_rf, true_and, and_true, List.length_cons, List.length_nil, Nat.reduceAdd, Nat.reduceLeDiff, hK_sI, hN_sI, hR_sI, hI_sI, hK_sR, hN_sR, hR_sR, hI_sR, kC_2, kC_3, kC_4, kC_5, kC_6, kC_7, kC_8, kC_9, kC_10, kC_11, kC_20, kC_21, kC_22, kC_23, i2_0, i1_1, i0_1, i1_0, bI_and, bI_0, Decidable.not_not, not_false_eq_true, not_true_eq_false, forall_const, false_implies, true_implies, hK_copy, hN_copy, hI_copy, hC_sI, hC_sR, hC_new, hK_new, hN_new, hI_new, hR_new, rf_some, rf_none, ex_ref, ex_null, ex_rf, nref_null, rf_null, Nat.reduceEqDiff, reduceCtorEq, false_and, and_false, if_false, if_true, ne_eq, kO_150, kO_151, kO_152, kO_170, kO_180, kO_190, Value.ref.injEq, exists_eq_left', false_or]
      refine ⟨by decide, fun o ho => ?_⟩
      have nr : ¬ r = o := fun e => by rw [e, ho] at k1; cases k1
      have na : ¬ a = o := fun e => by rw [e, ho] at k2; cases k2
      simp only [nr, na, k1, k2, k3, iF150, i_mmax, i_mmin, i_pushI, i_pushN, i_pushL, i_iload, i_aload, i_istore, i_astore, i_iinc, i_iadd, i_isub, i_imul, i_iand, i_ior, i_ixor, i_ishl, i_ishr, i_iushr, i_idiv, i_i2l, i_lcmp, i_dup, i_pop, i_dupx1, i_dup2, i_ifeq, i_ifne, i_iflt, i_ifge, i_ifgt, i_ifle, i_iceq, i_icne, i_iclt, i_icge, i_icgt, i_icle, i_ifnull, i_aceq, i_getI, i_getR, i_putI, i_putZ, i_putR, i_new, i_newarr, i_ald, i_lald, i_aald, i_alen, i_ast, i_zast, i_last, i_aast, i_aastL, i_cast, i_gste, i_ldcM, i_getC, i_acopy, i_dead, i_objinit, i_callV, i_callS, i_callI, i_iret, i_zret, i_aret, i_vret, i_throw, popN, pushO, lget, lset, isRf_ref, isRf_null, isRf_rf, isC1_int, isC1_ref, isC1_null, isC1_rf, true_and, and_true, List.length_cons, List.length_nil, Nat.reduceAdd, Nat.reduceLeDiff, hK_sI, hN_sI, hR_sI, hI_sI, hK_sR, hN_sR, hR_sR, hI_sR, kC_2, kC_3, kC_4, kC_5, kC_6, kC_7, kC_8, kC_9, kC_10, kC_11, kC_20, kC_21, kC_22, kC_23, i2_0, i1_1, i0_1, i1_0, bI_and, bI_0, Decidable.not_not, not_false_eq_true, not_true_eq_false, forall_const, false_implies, true_implies, hK_copy, hN_copy, hI_copy, hC_sI, hC_sR, hC_new, hK_new, hN_new, hI_new, hR_new, rf_some, rf_none, ex_ref, ex_null, ex_rf, nref_null, rf_null, Nat.reduceEqDiff, reduceCtorEq, false_and, and_false, if_false, if_true, ne_eq, kO_150, kO_151, kO_152, kO_170, kO_180, kO_190, Value.ref.injEq, exists_eq_left', false_or]
      rw [show Int32.toNatClampNeg 8 = 8 by decide]
      exact ⟨by decide, hp o ho⟩
    · exact hT.elim
  · unfold T_X5_init at hT
    split at hT
    · exact ⟨Nat.le_of_ble_eq_true rfl, by simp [isC1_int, isC1_ref, isC1_null, isC1_rf]⟩
    · exact hT.elim
