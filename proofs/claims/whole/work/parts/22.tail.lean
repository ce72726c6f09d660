def cmpI (x y : Int32) : Int32 := if x < y then -1 else if x = y then 0 else 1
def wp_J6_compare_7cf53_19 (P : Option Value → hp_T → Prop) (X : String → hp_T → Prop) : KT :=
  i_iret P
set_option maxRecDepth 20000 in
theorem go_J6_compare_7cf53_19 {z : zT} {P : Option Value → hp_T → Prop} {X : String → hp_T → Prop} (hz : Cx z cJ6_compare_7cf53 2 "java/lang/Integer" "compare" 0 0 0) (hr : Rt z (some .int) P X 0 0) : Go z 0 0 19 (wp_J6_compare_7cf53_19 P X) := 
  s_iret hz hr rfl rfl dJ6_compare_7cf53_19
def wp_J6_compare_7cf53_0 (P : Option Value → hp_T → Prop) (X : String → hp_T → Prop) : KT :=
  i_iload 0 (i_iload 1 (i_icge (i_iload 0 (i_iload 1 (i_icne (i_pushI 1 (wp_J6_compare_7cf53_19 P X)) (i_pushI 0 (wp_J6_compare_7cf53_19 P X))))) (i_pushI (-1) (wp_J6_compare_7cf53_19 P X))))
set_option maxRecDepth 20000 in
theorem go_J6_compare_7cf53_0 {z : zT} {P : Option Value → hp_T → Prop} {X : String → hp_T → Prop} (hz : Cx z cJ6_compare_7cf53 2 "java/lang/Integer" "compare" 0 0 0) (hr : Rt z (some .int) P X 0 0) : Go z 0 0 0 (wp_J6_compare_7cf53_0 P X) := 
  s_iload_n hz rfl dJ6_compare_7cf53_0 (s_iload_n hz rfl dJ6_compare_7cf53_1 (s_icge hz (tgt := 9) rfl dJ6_compare_7cf53_2 (s_iload_n hz rfl dJ6_compare_7cf53_9 (s_iload_n hz rfl dJ6_compare_7cf53_10
    (s_icne hz (tgt := 18) rfl dJ6_compare_7cf53_11 (s_iconst hz rfl dJ6_compare_7cf53_18 (go_J6_compare_7cf53_19 hz hr)) (s_iconst hz rfl dJ6_compare_7cf53_14 (s_goto hz (tgt := 19) rfl dJ6_compare_7cf53_15
    (go_J6_compare_7cf53_19 hz hr)))))) (s_iconst hz rfl dJ6_compare_7cf53_5 (s_goto hz (tgt := 19) rfl dJ6_compare_7cf53_6 (go_J6_compare_7cf53_19 hz hr)))))

def T_J6_compare_7cf53 : PT := fun av h P X => match av with
  | [.int x, .int y] => (True) ∧ (P (some (.int (cmpI x y))) h)
  | _ => False
set_option maxRecDepth 20000 in
theorem ct_J6_compare_7cf53 : CT yJ6_compare_7cf53 cJ6_compare_7cf53 2 (some .int) 0 0 0 T_J6_compare_7cf53 := by
  refine ct_ofE (by decide) (fun z av h P X hT hz hr => ?_) (fun av h P X hT => ?_)
  · unfold T_J6_compare_7cf53 at hT
    split at hT
    · refine ⟨_, go_J6_compare_7cf53_0 hz hr, ?_⟩
      rename_i x y
      show wp_J6_compare_7cf53_0 P X [some (.int x), some (.int y)] [] h
      obtain ⟨hk, hp⟩ := hT
      simp only [wp_J6_compare_7cf53_19, wp_J6_compare_7cf53_0, i_mmax, i_mmin, i_pushI, i_pushN, i_pushL, i_iload, i_aload, i_istore, i_astore, i_iinc, i_iadd, i_isub, i_imul, i_iand, i_ior, i_ixor, i_ishl, i_ishr, i_iushr, i_idiv, i_i2l, i_lcmp, i_dup, i_pop, i_dupx1, i_dup2, i_ifeq, i_ifne, i_iflt, i_ifge, i_ifgt, i_ifle, i_iceq, i_icne, i_iclt, i_icge, i_icgt, i_icle, i_ifnull, i_aceq, i_getI, i_getR, i_putI, i_putZ, i_putR, i_new, i_newarr, i_ald, i_lald, i_aald, i_alen, i_ast, i_zast, i_last, i_aast, i_aastL, i_cast, i_gste, i_ldcM, i_getC, i_acopy, i_dead, i_objinit, i_callV, i_callS, i_callI, i_iret, i_zret, i_aret, i_vret, i_throw, popN, pushO, lget, lset, isRf_ref, isRf_null, isRf_rf, isC1_int, isC1_ref, isC1_null, isC1_rf, true_and, and_true, List.length_cons, List.length_nil, Nat.reduceAdd, Nat.reduceLeDiff, hK_sI, hN_sI, hR_sI, hI_sI, hK_sR, hN_sR, hR_sR, hI_sR, kC_2, kC_3, kC_4, kC_5, kC_6, kC_7, kC_8, kC_9, kC_10, kC_11, kC_20, kC_21, kC_22, kC_23, i2_0, i1_1, i0_1, i1_0, bI_and, bI_0, Decidable.not_not, not_false_eq_true, not_true_eq_false, forall_const, false_implies, true_implies, hK_copy, hN_copy, hI_copy, hC_sI, hC_sR, hC_new, hK_new, hN_new, hI_new, hR_new, rf_some, rf_none, ex_ref, ex_null, ex_rf, nref_null, rf_null, Nat.reduceEqDiff, reduceCtorEq, false_and, and_false, if_false, if_true, ne_eq, kO_150, kO_151, kO_152, kO_170, kO_180, kO_190, Value.ref.injEq, exists_eq_left', false_or, hk]
      (repeat' (first | (apply And.intro) | (intro _)))
      all_goals (unfold cmpI at hp; (repeat' (split at hp)) <;> first | exact hp | (exfalso; clear hp; grind))
    · exact hT.elim
  · unfold T_J6_compare_7cf53 at hT
    split at hT
    · exact ⟨Nat.le_of_ble_eq_true rfl, by simp [isC1_int, isC1_ref, isC1_null, isC1_rf]⟩
    · exact hT.elim
def uI (x y : Int32) : Int32 := (x.toUInt32 >>> (y.toUInt32 &&& Int32.toUInt32 31)).toInt32
def bcA (x : Int32) : Int32 := x - (uI x 1 &&& 1431655765)
def bcB (x : Int32) : Int32 := (x &&& 858993459) + (uI x 2 &&& 858993459)
def bcC (x : Int32) : Int32 := (x + uI x 4) &&& 252645135
def bcD (x : Int32) : Int32 := x + uI x 8
def bcE (x : Int32) : Int32 := x + uI x 16
def bcI (x : Int32) : Int32 := bcE (bcD (bcC (bcB (bcA x)))) &&& 63
def wp_J6_bitCount_0f7a4_0 (P : Option Value → hp_T → Prop) (X : String → hp_T → Prop) : KT :=
  i_iload 0 (i_iload 0 (i_pushI 1 (i_iushr (i_pushI 1431655765 (i_iand (i_isub (i_istore 0 (i_iload 0 (i_pushI 858993459 (i_iand (i_iload 0 (i_pushI 2 (i_iushr (i_pushI 858993459 (i_iand
    (i_iadd (i_istore 0 (i_iload 0 (i_iload 0 (i_pushI 4 (i_iushr (i_iadd (i_pushI 252645135 (i_iand (i_istore 0 (i_iload 0 (i_iload 0 (i_pushI 8 (i_iushr (i_iadd (i_istore 0 (i_iload 0 (i_iload 0
    (i_pushI 16 (i_iushr (i_iadd (i_istore 0 (i_iload 0 (i_pushI 63 (i_iand (i_iret P)))))))))))))))))))))))))))))))))))))))))
set_option maxRecDepth 20000 in
theorem go_J6_bitCount_0f7a4_0 {z : zT} {P : Option Value → hp_T → Prop} {X : String → hp_T → Prop} (hz : Cx z cJ6_bitCount_0f7a4 1 "java/lang/Integer" "bitCount" 0 0 0) (hr : Rt z (some .int) P X 0 0) : Go z 0 0 0 (wp_J6_bitCount_0f7a4_0 P X) := 
  s_iload_n hz rfl dJ6_bitCount_0f7a4_0 (s_iload_n hz rfl dJ6_bitCount_0f7a4_1 (s_iconst hz rfl dJ6_bitCount_0f7a4_2 (s_iushr hz dJ6_bitCount_0f7a4_3 (s_ldcw hz w175 dJ6_bitCount_0f7a4_4
    (s_iand hz dJ6_bitCount_0f7a4_7 (s_isub hz dJ6_bitCount_0f7a4_8 (s_istore_n hz rfl rfl dJ6_bitCount_0f7a4_9 (s_iload_n hz rfl dJ6_bitCount_0f7a4_10 (s_ldcw hz w176 dJ6_bitCount_0f7a4_11
    (s_iand hz dJ6_bitCount_0f7a4_14 (s_iload_n hz rfl dJ6_bitCount_0f7a4_15 (s_iconst hz rfl dJ6_bitCount_0f7a4_16 (s_iushr hz dJ6_bitCount_0f7a4_17 (s_ldcw hz w176 dJ6_bitCount_0f7a4_18
    (s_iand hz dJ6_bitCount_0f7a4_21 (s_iadd hz dJ6_bitCount_0f7a4_22 (s_istore_n hz rfl rfl dJ6_bitCount_0f7a4_23 (s_iload_n hz rfl dJ6_bitCount_0f7a4_24 (s_iload_n hz rfl dJ6_bitCount_0f7a4_25
    (s_iconst hz rfl dJ6_bitCount_0f7a4_26 (s_iushr hz dJ6_bitCount_0f7a4_27 (s_iadd hz dJ6_bitCount_0f7a4_28 (s_ldcw hz w177 dJ6_bitCount_0f7a4_29 (s_iand hz dJ6_bitCount_0f7a4_32 (s_istore_n hz rfl rfl dJ6_bitCount_0f7a4_33
    (s_iload_n hz rfl dJ6_bitCount_0f7a4_34 (s_iload_n hz rfl dJ6_bitCount_0f7a4_35 (s_bipush hz rfl dJ6_bitCount_0f7a4_36 (s_iushr hz dJ6_bitCount_0f7a4_38 (s_iadd hz dJ6_bitCount_0f7a4_39
    (s_istore_n hz rfl rfl dJ6_bitCount_0f7a4_40 (s_iload_n hz rfl dJ6_bitCount_0f7a4_41 (s_iload_n hz rfl dJ6_bitCount_0f7a4_42 (s_bipush hz rfl dJ6_bitCount_0f7a4_43 (s_iushr hz dJ6_bitCount_0f7a4_45
    (s_iadd hz dJ6_bitCount_0f7a4_46 (s_istore_n hz rfl rfl dJ6_bitCount_0f7a4_47 (s_iload_n hz rfl dJ6_bitCount_0f7a4_48 (s_bipush hz rfl dJ6_bitCount_0f7a4_49 (s_iand hz dJ6_bitCount_0f7a4_51
    (s_iret hz hr rfl rfl dJ6_bitCount_0f7a4_52)))))))))))))))))))))))))))))))))))))))))

def T_J6_bitCount_0f7a4 : PT := fun av h P X => match av with
  | [.int x] => (True) ∧ (P (some (.int (bcI x))) h)
  | _ => False
set_option maxRecDepth 20000 in
theorem ct_J6_bitCount_0f7a4 : CT yJ6_bitCount_0f7a4 cJ6_bitCount_0f7a4 1 (some .int) 0 0 0 T_J6_bitCount_0f7a4 := by
  refine ct_ofE (by decide) (fun z av h P X hT hz hr => ?_) (fun av h P X hT => ?_)
  · unfold T_J6_bitCount_0f7a4 at hT
    split at hT
    · refine ⟨_, go_J6_bitCount_0f7a4_0 hz hr, ?_⟩
      rename_i x
      show wp_J6_bitCount_0f7a4_0 P X [some (.int x)] [] h
      obtain ⟨hk, hp⟩ := hT
      simp only [wp_J6_bitCount_0f7a4_0, i_mmax, i_mmin, i_pushI, i_pushN, i_pushL, i_iload, i_aload, i_istore, i_astore, i_iinc, i_iadd, i_isub, i_imul, i_iand, i_ior, i_ixor, i_ishl, i_ishr, i_iushr, i_idiv, i_i2l, i_lcmp, i_dup, i_pop, i_dupx1, i_dup2, i_ifeq, i_ifne, i_iflt, i_ifge, i_ifgt, i_ifle, i_iceq, i_icne, i_iclt, i_icge, i_icgt, i_icle, i_ifnull, i_aceq, i_getI, i_getR, i_putI, i_putZ, i_putR, i_new, i_newarr, i_ald, i_lald, i_aald, i_alen, i_ast, i_zast, i_last, i_aast, i_aastL, i_cast, i_gste, i_ldcM, i_getC, i_acopy, i_dead, i_objinit, i_callV, i_callS, i_callI, i_iret, i_zret, i_aret, i_vret, i_throw, popN, pushO, lget, lset, isRf_ref, isRf_null, isRf_rf, isC1_int, isC1_ref, isC1_null, isC1_rf, true_and, and_true, List.length_cons, List.length_nil, Nat.reduceAdd, Nat.reduceLeDiff, hK_sI, hN_sI, hR_sI, hI_sI, hK_sR, hN_sR, hR_sR, hI_sR, kC_2, kC_3, kC_4, kC_5, kC_6, kC_7, kC_8, kC_9, kC_10, kC_11, kC_20, kC_21, kC_22, kC_23, i2_0, i1_1, i0_1, i1_0, bI_and, bI_0, Decidable.not_not, not_false_eq_true, not_true_eq_false, forall_const, false_implies, true_implies, hK_copy, hN_copy, hI_copy, hC_sI, hC_sR, hC_new, hK_new, hN_new, hI_new, hR_new, rf_some, rf_none, ex_ref, ex_null, ex_rf, nref_null, rf_null, Nat.reduceEqDiff, reduceCtorEq, false_and, and_false, if_false, if_true, ne_eq, kO_150, kO_151, kO_152, kO_170, kO_180, kO_190, Value.ref.injEq, exists_eq_left', false_or, hk]
      (repeat' (first | (apply And.intro) | (intro _)))
      all_goals first | exact hp | (rw [bI_t (by clear hp; grind)] at hp; exact hp) | (rw [bI_f (by clear hp; grind)] at hp; exact hp) | (simp_all; done)
    · exact hT.elim
  · unfold T_J6_bitCount_0f7a4 at hT
    split at hT
    · exact ⟨Nat.le_of_ble_eq_true rfl, by simp [isC1_int, isC1_ref, isC1_null, isC1_rf]⟩
    · exact hT.elim
abbrev spI (a b c d : Int32) : Prop := miI a b ≤ maI c d ∧ miI c d ≤ maI a b
abbrev sdI (fx fy mx my x y : Int32) : Int32 := cmpI ((mx - fx) * (y - fy)) ((my - fy) * (x - fx))
abbrev tMeN (a1 a2 a3 a4 b1 b2 b3 b4 : Int32) : Prop := spI a1 a3 b1 b3 ∧ spI a2 a4 b2 b4 ∧ sdI a1 a2 a3 a4 b1 b2 * sdI a1 a2 a3 a4 b3 b4 ≤ 0 ∧ sdI b1 b2 b3 b4 a1 a2 * sdI b1 b2 b3 b4 a3 a4 ≤ 0
abbrev tAlN (a1 a2 a3 a4 b1 b2 b3 b4 : Int32) : Prop := 0 < (a1 - a3) * (b1 - b3) + (a2 - a4) * (b2 - b4) ∧ sdI a1 a2 a3 a4 b1 b2 = 0
abbrev tSumN (a1 a2 a3 a4 x y w hh : Int32) : Int32 := sdI a1 a2 a3 a4 x y + sdI a1 a2 a3 a4 (x + w) y + sdI a1 a2 a3 a4 x (y + hh) + sdI a1 a2 a3 a4 (x + w) (y + hh)
abbrev tToN (a1 a2 a3 a4 x y w hh : Int32) : Prop := ¬ (tSumN a1 a2 a3 a4 x y w hh = 4 ∨ tSumN a1 a2 a3 a4 x y w hh = -4) ∧ spI a1 a3 x (x + w) ∧ spI a2 a4 y (y + hh)
abbrev tSd (h : hp_T) (a : Nat) (x y : Int32) : Int32 := sdI (hI h 512 a 0) (hI h 513 a 0) (hI h 514 a 0) (hI h 515 a 0) x y
abbrev tMe (h : hp_T) (a b : Nat) : Prop := tMeN (hI h 512 a 0) (hI h 513 a 0) (hI h 514 a 0) (hI h 515 a 0) (hI h 512 b 0) (hI h 513 b 0) (hI h 514 b 0) (hI h 515 b 0)
abbrev tAl (h : hp_T) (a b : Nat) : Prop := tAlN (hI h 512 a 0) (hI h 513 a 0) (hI h 514 a 0) (hI h 515 a 0) (hI h 512 b 0) (hI h 513 b 0) (hI h 514 b 0) (hI h 515 b 0)
abbrev tTo (h : hp_T) (a b : Nat) : Prop := tToN (hI h 512 a 0) (hI h 513 a 0) (hI h 514 a 0) (hI h 515 a 0) (hI h 192 b 0) (hI h 193 b 0) (hI h 194 b 0) (hI h 195 b 0)
def wp_X6_init_0 (P : Option Value → hp_T → Prop) (X : String → hp_T → Prop) : KT :=
  i_aload 0 (i_objinit (i_aload 0 (i_aload 1 (i_callV 0 3 T_X1_middleX noX (i_putI 8 512 (i_aload 0 (i_aload 1 (i_callV 0 3 T_X1_middleY noX (i_putI 8 513 (i_aload 0 (i_aload 2 (i_callV 0 3 T_X1_middleX noX
    (i_putI 8 514 (i_aload 0 (i_aload 2 (i_callV 0 3 T_X1_middleY noX (i_putI 8 515 (i_vret P))))))))))))))))))
set_option maxRecDepth 20000 in
theorem go_X6_init_0 {z : zT} {P : Option Value → hp_T → Prop} {X : String → hp_T → Prop} (hz : Cx z cX6_init 3 "Panelry$Tail" "<init>" 1 0 0) (hr : Rt z none P X 0 0) : Go z 0 0 0 (wp_X6_init_0 P X) := 
  s_aload_n hz rfl dX6_init_0 (s_objinit hz w750 w61 w62 rfl dX6_init_1 (s_aload_n hz rfl dX6_init_4 (s_aload_n hz rfl dX6_init_5 (s_callV hz ct_X1_middleX ⟨w751, w754, w47, by decide, by decide, by decide +kernel⟩ w752 w753 cls2 rfl rfl rfl rfl rfl rfl out_no dX6_init_6
    (fp_RX6_13 hz dX6_init_9 (s_aload_n hz rfl dX6_init_12 (s_aload_n hz rfl dX6_init_13 (s_callV hz ct_X1_middleY ⟨w755, w758, w47, by decide, by decide, by decide +kernel⟩ w756 w757 cls2 rfl rfl rfl rfl rfl rfl out_no dX6_init_14
    (fp_RX6_22 hz dX6_init_17 (s_aload_n hz rfl dX6_init_20 (s_aload_n hz rfl dX6_init_21 (s_callV hz ct_X1_middleX ⟨w751, w754, w47, by decide, by decide, by decide +kernel⟩ w752 w753 cls2 rfl rfl rfl rfl rfl rfl out_no dX6_init_22
    (fp_RX6_25 hz dX6_init_25 (s_aload_n hz rfl dX6_init_28 (s_aload_n hz rfl dX6_init_29 (s_callV hz ct_X1_middleY ⟨w755, w758, w47, by decide, by decide, by decide +kernel⟩ w756 w757 cls2 rfl rfl rfl rfl rfl rfl out_no dX6_init_30
    (fp_RX6_28 hz dX6_init_33 (s_vret hz hr rfl rfl dX6_init_36))))))))))))))))))

def T_X6_init : PT := fun av h P X => match av with
  | [.ref a, .ref b, .ref c] => (hK h a = 8 ∧ hK h b = 3 ∧ hK h c = 3) ∧ (P none (hsI (hsI (hsI (hsI h 512 a 0 (hI h 192 b 0 + hI h 194 b 0 / 2)) 513 a 0 (hI h 193 b 0 + hI h 195 b 0 / 2)) 514 a 0 (hI h 192 c 0 + hI h 194 c 0 / 2)) 515 a 0 (hI h 193 c 0 + hI h 195 c 0 / 2)))
  | _ => False
set_option maxRecDepth 20000 in
theorem ct_X6_init : CT yX6_init cX6_init 3 none 1 0 0 T_X6_init := by
  refine ct_ofE (by decide) (fun z av h P X hT hz hr => ?_) (fun av h P X hT => ?_)
  · unfold T_X6_init at hT
    split at hT
    · refine ⟨_, go_X6_init_0 hz hr, ?_⟩
      rename_i a b c
      show wp_X6_init_0 P X [some (.ref a), some (.ref b), some (.ref c)] [] h
      obtain ⟨hk, hp⟩ := hT
      simp only [wp_X6_init_0, T_X1_middleX, T_X1_middleY, i_mmax, i_mmin, i_pushI, i_pushN, i_pushL, i_iload, i_aload, i_istore, i_astore, i_iinc, i_iadd, i_isub, i_imul, i_iand, i_ior, i_ixor, i_ishl, i_ishr, i_iushr, i_idiv, i_i2l, i_lcmp, i_dup, i_pop, i_dupx1, i_dup2, i_ifeq, i_ifne, i_iflt, i_ifge, i_ifgt, i_ifle, i_iceq, i_icne, i_iclt, i_icge, i_icgt, i_icle, i_ifnull, i_aceq, i_getI, i_getR, i_putI, i_putZ, i_putR, i_new, i_newarr, i_ald, i_lald, i_aald, i_alen, i_ast, i_zast, i_last, i_aast, i_aastL, i_cast, i_gste, i_ldcM, i_getC, i_acopy, i_dead, i_objinit, i_callV, i_callS, i_callI, i_iret, i_zret, i_aret, i_vret, i_throw, popN, pushO, lget, lset, isRf_ref, isRf_null, isRf_rf, isC1_int, isC1_ref, isC1_null, isC1_rf, true_and, and_true, List.length_cons, List.length_nil, Nat.reduceAdd, Nat.reduceLeDiff, hK_sI, hN_sI, hR_sI, hI_sI, hK_sR, hN_sR, hR_sR, hI_sR, kC_2, kC_3, kC_4, kC_5, kC_6, kC_7, kC_8, kC_9, kC_10, kC_11, kC_20, kC_21, kC_22, kC_23, i2_0, i1_1, i0_1, i1_0, bI_and, bI_0, Decidable.not_not, not_false_eq_true, not_true_eq_false, forall_const, false_implies, true_implies, hK_copy, hN_copy, hI_copy, hC_sI, hC_sR, hC_new, hK_new, hN_new, hI_new, hR_new, rf_some, rf_none, ex_ref, ex_null, ex_rf, nref_null, rf_null, Nat.reduceEqDiff, reduceCtorEq, false_and, and_false, if_false, if_true, ne_eq, kO_150, kO_151, kO_152, kO_170, kO_180, kO_190, Value.ref.injEq, exists_eq_left', false_or, hk]
      (repeat' (first | (apply And.intro) | (intro _)))
      all_goals first | exact hp | (rw [bI_t (by clear hp; grind)] at hp; exact hp) | (rw [bI_f (by clear hp; grind)] at hp; exact hp) | (simp_all; done)
    · exact hT.elim
  · unfold T_X6_init at hT
    split at hT
    · exact ⟨Nat.le_of_ble_eq_true rfl, by simp [isC1_int, isC1_ref, isC1_null, isC1_rf]⟩
    · exact hT.elim
def wp_X6_isSpanMet_31 (P : Option Value → hp_T → Prop) (X : String → hp_T → Prop) : KT :=
  i_zret P
set_option maxRecDepth 20000 in
theorem go_X6_isSpanMet_31 {z : zT} {P : Option Value → hp_T → Prop} {X : String → hp_T → Prop} (hz : Cx z cX6_isSpanMet 4 "Panelry$Tail" "isSpanMet" 1 0 0) (hr : Rt z (some .boolean) P X 0 0) : Go z 0 0 31 (wp_X6_isSpanMet_31 P X) := 
  s_zret hz hr rfl rfl dX6_isSpanMet_31
def wp_X6_isSpanMet_30 (P : Option Value → hp_T → Prop) (X : String → hp_T → Prop) : KT :=
  i_pushI 0 (wp_X6_isSpanMet_31 P X)
set_option maxRecDepth 20000 in
theorem go_X6_isSpanMet_30 {z : zT} {P : Option Value → hp_T → Prop} {X : String → hp_T → Prop} (hz : Cx z cX6_isSpanMet 4 "Panelry$Tail" "isSpanMet" 1 0 0) (hr : Rt z (some .boolean) P X 0 0) : Go z 0 0 30 (wp_X6_isSpanMet_30 P X) := 
  s_iconst hz rfl dX6_isSpanMet_30 (go_X6_isSpanMet_31 hz hr)
def wp_X6_isSpanMet_0 (P : Option Value → hp_T → Prop) (X : String → hp_T → Prop) : KT :=
  i_iload 0 (i_iload 1 (i_mmin (i_iload 2 (i_iload 3 (i_mmax (i_icgt (wp_X6_isSpanMet_30 P X) (i_iload 2 (i_iload 3 (i_mmin (i_iload 0 (i_iload 1 (i_mmax (i_icgt (wp_X6_isSpanMet_30 P X)
    (i_pushI 1 (wp_X6_isSpanMet_31 P X)))))))))))))))
set_option maxRecDepth 20000 in
theorem go_X6_isSpanMet_0 {z : zT} {P : Option Value → hp_T → Prop} {X : String → hp_T → Prop} (hz : Cx z cX6_isSpanMet 4 "Panelry$Tail" "isSpanMet" 1 0 0) (hr : Rt z (some .boolean) P X 0 0) : Go z 0 0 0 (wp_X6_isSpanMet_0 P X) := 
  s_iload_n hz rfl dX6_isSpanMet_0 (s_iload_n hz rfl dX6_isSpanMet_1 (s_mmin hz w788 w205 w40 w206 rfl rfl rfl dX6_isSpanMet_2 (s_iload_n hz rfl dX6_isSpanMet_5 (s_iload_n hz rfl dX6_isSpanMet_6
    (s_mmax hz w789 w356 w40 w357 rfl rfl rfl dX6_isSpanMet_7 (s_icgt hz (tgt := 30) rfl dX6_isSpanMet_10 (go_X6_isSpanMet_30 hz hr) (s_iload_n hz rfl dX6_isSpanMet_13 (s_iload_n hz rfl dX6_isSpanMet_14
    (s_mmin hz w788 w205 w40 w206 rfl rfl rfl dX6_isSpanMet_15 (s_iload_n hz rfl dX6_isSpanMet_18 (s_iload_n hz rfl dX6_isSpanMet_19 (s_mmax hz w789 w356 w40 w357 rfl rfl rfl dX6_isSpanMet_20
    (s_icgt hz (tgt := 30) rfl dX6_isSpanMet_23 (go_X6_isSpanMet_30 hz hr) (s_iconst hz rfl dX6_isSpanMet_26 (s_goto hz (tgt := 31) rfl dX6_isSpanMet_27 (go_X6_isSpanMet_31 hz hr))))))))))))))))

def T_X6_isSpanMet : PT := fun av h P X => match av with
  | [.int a, .int b, .int c, .int d] => (True) ∧ (P (some (.int (bI (spI a b c d)))) h)
  | _ => False
set_option maxRecDepth 20000 in
theorem ct_X6_isSpanMet : CT yX6_isSpanMet cX6_isSpanMet 4 (some .boolean) 1 0 0 T_X6_isSpanMet := by
  refine ct_ofE (by decide) (fun z av h P X hT hz hr => ?_) (fun av h P X hT => ?_)
  · unfold T_X6_isSpanMet at hT
    split at hT
    · refine ⟨_, go_X6_isSpanMet_0 hz hr, ?_⟩
      rename_i a b c d
      show wp_X6_isSpanMet_0 P X [some (.int a), some (.int b), some (.int c), some (.int d)] [] h
      obtain ⟨hk, hp⟩ := hT
      simp only [wp_X6_isSpanMet_31, wp_X6_isSpanMet_30, wp_X6_isSpanMet_0, i_mmax, i_mmin, i_pushI, i_pushN, i_pushL, i_iload, i_aload, i_istore, i_astore, i_iinc, i_iadd, i_isub, i_imul, i_iand, i_ior, i_ixor, i_ishl, i_ishr, i_iushr, i_idiv, i_i2l, i_lcmp, i_dup, i_pop, i_dupx1, i_dup2, i_ifeq, i_ifne, i_iflt, i_ifge, i_ifgt, i_ifle, i_iceq, i_icne, i_iclt, i_icge, i_icgt, i_icle, i_ifnull, i_aceq, i_getI, i_getR, i_putI, i_putZ, i_putR, i_new, i_newarr, i_ald, i_lald, i_aald, i_alen, i_ast, i_zast, i_last, i_aast, i_aastL, i_cast, i_gste, i_ldcM, i_getC, i_acopy, i_dead, i_objinit, i_callV, i_callS, i_callI, i_iret, i_zret, i_aret, i_vret, i_throw, popN, pushO, lget, lset, isRf_ref, isRf_null, isRf_rf, isC1_int, isC1_ref, isC1_null, isC1_rf, true_and, and_true, List.length_cons, List.length_nil, Nat.reduceAdd, Nat.reduceLeDiff, hK_sI, hN_sI, hR_sI, hI_sI, hK_sR, hN_sR, hR_sR, hI_sR, kC_2, kC_3, kC_4, kC_5, kC_6, kC_7, kC_8, kC_9, kC_10, kC_11, kC_20, kC_21, kC_22, kC_23, i2_0, i1_1, i0_1, i1_0, bI_and, bI_0, Decidable.not_not, not_false_eq_true, not_true_eq_false, forall_const, false_implies, true_implies, hK_copy, hN_copy, hI_copy, hC_sI, hC_sR, hC_new, hK_new, hN_new, hI_new, hR_new, rf_some, rf_none, ex_ref, ex_null, ex_rf, nref_null, rf_null, Nat.reduceEqDiff, reduceCtorEq, false_and, and_false, if_false, if_true, ne_eq, kO_150, kO_151, kO_152, kO_170, kO_180, kO_190, Value.ref.injEq, exists_eq_left', false_or, hk]
      (repeat' (first | (apply And.intro) | (intro _)))
      all_goals first | exact hp | (rw [bI_t (by clear hp; grind)] at hp; exact hp) | (rw [bI_f (by clear hp; grind)] at hp; exact hp) | (simp_all; done)
    · exact hT.elim
  · unfold T_X6_isSpanMet at hT
    split at hT
    · exact ⟨Nat.le_of_ble_eq_true rfl, by simp [isC1_int, isC1_ref, isC1_null, isC1_rf]⟩
    · exact hT.elim
def wp_X6_sideOf_0 (P : Option Value → hp_T → Prop) (X : String → hp_T → Prop) : KT :=
  i_aload 0 (i_getI 8 514 (i_aload 0 (i_getI 8 512 (i_isub (i_iload 2 (i_aload 0 (i_getI 8 513 (i_isub (i_imul (i_aload 0 (i_getI 8 515 (i_aload 0 (i_getI 8 513 (i_isub (i_iload 1 (i_aload 0
    (i_getI 8 512 (i_isub (i_imul (i_callS 2 T_J6_compare_7cf53 noX (i_iret P)))))))))))))))))))))
set_option maxRecDepth 20000 in
theorem go_X6_sideOf_0 {z : zT} {P : Option Value → hp_T → Prop} {X : String → hp_T → Prop} (hz : Cx z cX6_sideOf 3 "Panelry$Tail" "sideOf" 1 0 0) (hr : Rt z (some .int) P X 0 0) : Go z 0 0 0 (wp_X6_sideOf_0 P X) := 
  s_aload_n hz rfl dX6_sideOf_0 (fg_RX6_25 hz dX6_sideOf_1 (s_aload_n hz rfl dX6_sideOf_4 (fg_RX6_13 hz dX6_sideOf_5 (s_isub hz dX6_sideOf_8 (s_iload_n hz rfl dX6_sideOf_9 (s_aload_n hz rfl dX6_sideOf_10
    (fg_RX6_22 hz dX6_sideOf_11 (s_isub hz dX6_sideOf_14 (s_imul hz dX6_sideOf_15 (s_aload_n hz rfl dX6_sideOf_16 (fg_RX6_28 hz dX6_sideOf_17 (s_aload_n hz rfl dX6_sideOf_20 (fg_RX6_22 hz dX6_sideOf_21
    (s_isub hz dX6_sideOf_24 (s_iload_n hz rfl dX6_sideOf_25 (s_aload_n hz rfl dX6_sideOf_26 (fg_RX6_13 hz dX6_sideOf_27 (s_isub hz dX6_sideOf_30 (s_imul hz dX6_sideOf_31 (s_callS hz ct_J6_compare_7cf53 ⟨w780, w782, w50, by decide, by decide, by decide +kernel⟩ w781 rfl rfl rfl rfl out_no dX6_sideOf_32
    (s_iret hz hr rfl rfl dX6_sideOf_35)))))))))))))))))))))

def T_X6_sideOf : PT := fun av h P X => match av with
  | [.ref a, .int x, .int y] => (hK h a = 8) ∧ (P (some (.int (tSd h a x y))) h)
  | _ => False
set_option maxRecDepth 20000 in
theorem ct_X6_sideOf : CT yX6_sideOf cX6_sideOf 3 (some .int) 1 0 0 T_X6_sideOf := by
  refine ct_ofE (by decide) (fun z av h P X hT hz hr => ?_) (fun av h P X hT => ?_)
  · unfold T_X6_sideOf at hT
    split at hT
    · refine ⟨_, go_X6_sideOf_0 hz hr, ?_⟩
      rename_i a x y
      show wp_X6_sideOf_0 P X [some (.ref a), some (.int x), some (.int y)] [] h
      obtain ⟨hk, hp⟩ := hT
      simp only [wp_X6_sideOf_0, T_J6_compare_7cf53, i_mmax, i_mmin, i_pushI, i_pushN, i_pushL, i_iload, i_aload, i_istore, i_astore, i_iinc, i_iadd, i_isub, i_imul, i_iand, i_ior, i_ixor, i_ishl, i_ishr, i_iushr, i_idiv, i_i2l, i_lcmp, i_dup, i_pop, i_dupx1, i_dup2, i_ifeq, i_ifne, i_iflt, i_ifge, i_ifgt, i_ifle, i_iceq, i_icne, i_iclt, i_icge, i_icgt, i_icle, i_ifnull, i_aceq, i_getI, i_getR, i_putI, i_putZ, i_putR, i_new, i_newarr, i_ald, i_lald, i_aald, i_alen, i_ast, i_zast, i_last, i_aast, i_aastL, i_cast, i_gste, i_ldcM, i_getC, i_acopy, i_dead, i_objinit, i_callV, i_callS, i_callI, i_iret, i_zret, i_aret, i_vret, i_throw, popN, pushO, lget, lset, isRf_ref, isRf_null, isRf_rf, isC1_int, isC1_ref, isC1_null, isC1_rf, true_and, and_true, List.length_cons, List.length_nil, Nat.reduceAdd, Nat.reduceLeDiff, hK_sI, hN_sI, hR_sI, hI_sI, hK_sR, hN_sR, hR_sR, hI_sR, kC_2, kC_3, kC_4, kC_5, kC_6, kC_7, kC_8, kC_9, kC_10, kC_11, kC_20, kC_21, kC_22, kC_23, i2_0, i1_1, i0_1, i1_0, bI_and, bI_0, Decidable.not_not, not_false_eq_true, not_true_eq_false, forall_const, false_implies, true_implies, hK_copy, hN_copy, hI_copy, hC_sI, hC_sR, hC_new, hK_new, hN_new, hI_new, hR_new, rf_some, rf_none, ex_ref, ex_null, ex_rf, nref_null, rf_null, Nat.reduceEqDiff, reduceCtorEq, false_and, and_false, if_false, if_true, ne_eq, kO_150, kO_151, kO_152, kO_170, kO_180, kO_190, Value.ref.injEq, exists_eq_left', false_or, hk]
      (repeat' (first | (apply And.intro) | (intro _)))
      all_goals first | exact hp | (rw [bI_t (by clear hp; grind)] at hp; exact hp) | (rw [bI_f (by clear hp; grind)] at hp; exact hp) | (simp_all; done)
    · exact hT.elim
  · unfold T_X6_sideOf at hT
    split at hT
    · exact ⟨Nat.le_of_ble_eq_true rfl, by simp [isC1_int, isC1_ref, isC1_null, isC1_rf]⟩
    · exact hT.elim
def wp_X6_meets_105 (P : Option Value → hp_T → Prop) (X : String → hp_T → Prop) : KT :=
  i_zret P
set_option maxRecDepth 20000 in
theorem go_X6_meets_105 {z : zT} {P : Option Value → hp_T → Prop} {X : String → hp_T → Prop} (hz : Cx z cX6_meets 2 "Panelry$Tail" "meets" 2 0 0) (hr : Rt z (some .boolean) P X 0 0) : Go z 0 0 105 (wp_X6_meets_105 P X) := 
  s_zret hz hr rfl rfl dX6_meets_105
def wp_X6_meets_104 (P : Option Value → hp_T → Prop) (X : String → hp_T → Prop) : KT :=
  i_pushI 0 (wp_X6_meets_105 P X)
set_option maxRecDepth 20000 in
theorem go_X6_meets_104 {z : zT} {P : Option Value → hp_T → Prop} {X : String → hp_T → Prop} (hz : Cx z cX6_meets 2 "Panelry$Tail" "meets" 2 0 0) (hr : Rt z (some .boolean) P X 0 0) : Go z 0 0 104 (wp_X6_meets_104 P X) := 
  s_iconst hz rfl dX6_meets_104 (go_X6_meets_105 hz hr)
def wp_X6_meets_0 (P : Option Value → hp_T → Prop) (X : String → hp_T → Prop) : KT :=
  i_aload 0 (i_getI 8 512 (i_aload 0 (i_getI 8 514 (i_aload 1 (i_getI 8 512 (i_aload 1 (i_getI 8 514 (i_callS 4 T_X6_isSpanMet noX (i_ifeq (wp_X6_meets_104 P X) (i_aload 0 (i_getI 8 513
    (i_aload 0 (i_getI 8 515 (i_aload 1 (i_getI 8 513 (i_aload 1 (i_getI 8 515 (i_callS 4 T_X6_isSpanMet noX (i_ifeq (wp_X6_meets_104 P X) (i_aload 0 (i_aload 1 (i_getI 8 512 (i_aload 1 (i_getI 8 513
    (i_callV 2 8 T_X6_sideOf noX (i_aload 0 (i_aload 1 (i_getI 8 514 (i_aload 1 (i_getI 8 515 (i_callV 2 8 T_X6_sideOf noX (i_imul (i_ifgt (wp_X6_meets_104 P X) (i_aload 1 (i_aload 0 (i_getI 8 512
    (i_aload 0 (i_getI 8 513 (i_callV 2 8 T_X6_sideOf noX (i_aload 1 (i_aload 0 (i_getI 8 514 (i_aload 0 (i_getI 8 515 (i_callV 2 8 T_X6_sideOf noX (i_imul (i_ifgt (wp_X6_meets_104 P X) (i_pushI 1
    (wp_X6_meets_105 P X)))))))))))))))))))))))))))))))))))))))))))))))))
set_option maxRecDepth 20000 in
theorem go_X6_meets_0 {z : zT} {P : Option Value → hp_T → Prop} {X : String → hp_T → Prop} (hz : Cx z cX6_meets 2 "Panelry$Tail" "meets" 2 0 0) (hr : Rt z (some .boolean) P X 0 0) : Go z 0 0 0 (wp_X6_meets_0 P X) := 
  s_aload_n hz rfl dX6_meets_0 (fg_RX6_13 hz dX6_meets_1 (s_aload_n hz rfl dX6_meets_4 (fg_RX6_25 hz dX6_meets_5 (s_aload_n hz rfl dX6_meets_8 (fg_RX6_13 hz dX6_meets_9 (s_aload_n hz rfl dX6_meets_12
    (fg_RX6_25 hz dX6_meets_13 (s_callS hz ct_X6_isSpanMet ⟨w785, w787, w53, by decide, by decide, by decide +kernel⟩ w786 rfl rfl rfl rfl out_no dX6_meets_16 (s_ifeq hz (tgt := 104) rfl dX6_meets_19
    (go_X6_meets_104 hz hr) (s_aload_n hz rfl dX6_meets_22 (fg_RX6_22 hz dX6_meets_23 (s_aload_n hz rfl dX6_meets_26 (fg_RX6_28 hz dX6_meets_27 (s_aload_n hz rfl dX6_meets_30 (fg_RX6_22 hz dX6_meets_31
    (s_aload_n hz rfl dX6_meets_34 (fg_RX6_28 hz dX6_meets_35 (s_callS hz ct_X6_isSpanMet ⟨w785, w787, w53, by decide, by decide, by decide +kernel⟩ w786 rfl rfl rfl rfl out_no dX6_meets_38
    (s_ifeq hz (tgt := 104) rfl dX6_meets_41 (go_X6_meets_104 hz hr) (s_aload_n hz rfl dX6_meets_44 (s_aload_n hz rfl dX6_meets_45 (fg_RX6_13 hz dX6_meets_46 (s_aload_n hz rfl dX6_meets_49
    (fg_RX6_22 hz dX6_meets_50 (s_callV hz ct_X6_sideOf ⟨w776, w779, w53, by decide, by decide, by decide +kernel⟩ w778 w14 cls7 rfl rfl rfl rfl rfl rfl out_no dX6_meets_53 (s_aload_n hz rfl dX6_meets_56
    (s_aload_n hz rfl dX6_meets_57 (fg_RX6_25 hz dX6_meets_58 (s_aload_n hz rfl dX6_meets_61 (fg_RX6_28 hz dX6_meets_62 (s_callV hz ct_X6_sideOf ⟨w776, w779, w53, by decide, by decide, by decide +kernel⟩ w778 w14 cls7 rfl rfl rfl rfl rfl rfl out_no dX6_meets_65
    (s_imul hz dX6_meets_68 (s_ifgt hz (tgt := 104) rfl dX6_meets_69 (go_X6_meets_104 hz hr) (s_aload_n hz rfl dX6_meets_72 (s_aload_n hz rfl dX6_meets_73 (fg_RX6_13 hz dX6_meets_74 (s_aload_n hz rfl dX6_meets_77
    (fg_RX6_22 hz dX6_meets_78 (s_callV hz ct_X6_sideOf ⟨w776, w779, w53, by decide, by decide, by decide +kernel⟩ w778 w14 cls7 rfl rfl rfl rfl rfl rfl out_no dX6_meets_81 (s_aload_n hz rfl dX6_meets_84
    (s_aload_n hz rfl dX6_meets_85 (fg_RX6_25 hz dX6_meets_86 (s_aload_n hz rfl dX6_meets_89 (fg_RX6_28 hz dX6_meets_90 (s_callV hz ct_X6_sideOf ⟨w776, w779, w53, by decide, by decide, by decide +kernel⟩ w778 w14 cls7 rfl rfl rfl rfl rfl rfl out_no dX6_meets_93
    (s_imul hz dX6_meets_96 (s_ifgt hz (tgt := 104) rfl dX6_meets_97 (go_X6_meets_104 hz hr) (s_iconst hz rfl dX6_meets_100 (s_goto hz (tgt := 105) rfl dX6_meets_101 (go_X6_meets_105 hz hr))))))))))))))))))))))))))))))))))))))))))))))))))

def T_X6_meets : PT := fun av h P X => match av with
  | [.ref a, .ref b] => (hK h a = 8 ∧ hK h b = 8) ∧ (P (some (.int (bI (tMe h a b)))) h)
  | _ => False
set_option maxRecDepth 20000 in
theorem ct_X6_meets : CT yX6_meets cX6_meets 2 (some .boolean) 2 0 0 T_X6_meets := by
  refine ct_ofE (by decide) (fun z av h P X hT hz hr => ?_) (fun av h P X hT => ?_)
  · unfold T_X6_meets at hT
    split at hT
    · refine ⟨_, go_X6_meets_0 hz hr, ?_⟩
      rename_i a b
      show wp_X6_meets_0 P X [some (.ref a), some (.ref b)] [] h
      obtain ⟨hk, hp⟩ := hT
      simp only [wp_X6_meets_105, wp_X6_meets_104, wp_X6_meets_0, T_X6_isSpanMet, T_X6_sideOf, i_mmax, i_mmin, i_pushI, i_pushN, i_pushL, i_iload, i_aload, i_istore, i_astore, i_iinc, i_iadd, i_isub, i_imul, i_iand, i_ior, i_ixor, i_ishl, i_ishr, i_iushr, i_idiv, i_i2l, i_lcmp, i_dup, i_pop, i_dupx1, i_dup2, i_ifeq, i_ifne, i_iflt, i_ifge, i_ifgt, i_ifle, i_iceq, i_icne, i_iclt, i_icge, i_icgt, i_icle, i_ifnull, i_aceq, i_getI, i_getR, i_putI, i_putZ, i_putR, i_new, i_newarr, i_ald, i_lald, i_aald, i_alen, i_ast, i_zast, i_last, i_aast, i_aastL, i_cast, i_gste, i_ldcM, i_getC, i_acopy, i_dead, i_objinit, i_callV, i_callS, i_callI, i_iret, i_zret, i_aret, i_vret, i_throw, popN, pushO, lget, lset, isRf_ref, isRf_null, isRf_rf, isC1_int, isC1_ref, isC1_null, isC1_rf, true_and, and_true, List.length_cons, List.length_nil, Nat.reduceAdd, Nat.reduceLeDiff, hK_sI, hN_sI, hR_sI, hI_sI, hK_sR, hN_sR, hR_sR, hI_sR, kC_2, kC_3, kC_4, kC_5, kC_6, kC_7, kC_8, kC_9, kC_10, kC_11, kC_20, kC_21, kC_22, kC_23, i2_0, i1_1, i0_1, i1_0, bI_and, bI_0, Decidable.not_not, not_false_eq_true, not_true_eq_false, forall_const, false_implies, true_implies, hK_copy, hN_copy, hI_copy, hC_sI, hC_sR, hC_new, hK_new, hN_new, hI_new, hR_new, rf_some, rf_none, ex_ref, ex_null, ex_rf, nref_null, rf_null, Nat.reduceEqDiff, reduceCtorEq, false_and, and_false, if_false, if_true, ne_eq, kO_150, kO_151, kO_152, kO_170, kO_180, kO_190, Value.ref.injEq, exists_eq_left', false_or, hk]
      (repeat' (first | (apply And.intro) | (intro _)))
      all_goals first | exact hp | (rw [bI_t (by clear hp; grind)] at hp; exact hp) | (rw [bI_f (by clear hp; grind)] at hp; exact hp) | (simp_all; done)
    · exact hT.elim
  · unfold T_X6_meets at hT
    split at hT
    · exact ⟨Nat.le_of_ble_eq_true rfl, by simp [isC1_int, isC1_ref, isC1_null, isC1_rf]⟩
    · exact hT.elim
def wp_X6_runsAlong_64 (P : Option Value → hp_T → Prop) (X : String → hp_T → Prop) : KT :=
  i_zret P
set_option maxRecDepth 20000 in
theorem go_X6_runsAlong_64 {z : zT} {P : Option Value → hp_T → Prop} {X : String → hp_T → Prop} (hz : Cx z cX6_runsAlong 3 "Panelry$Tail" "runsAlong" 2 0 0) (hr : Rt z (some .boolean) P X 0 0) : Go z 0 0 64 (wp_X6_runsAlong_64 P X) := 
  s_zret hz hr rfl rfl dX6_runsAlong_64
def wp_X6_runsAlong_63 (P : Option Value → hp_T → Prop) (X : String → hp_T → Prop) : KT :=
  i_pushI 0 (wp_X6_runsAlong_64 P X)
set_option maxRecDepth 20000 in
theorem go_X6_runsAlong_63 {z : zT} {P : Option Value → hp_T → Prop} {X : String → hp_T → Prop} (hz : Cx z cX6_runsAlong 3 "Panelry$Tail" "runsAlong" 2 0 0) (hr : Rt z (some .boolean) P X 0 0) : Go z 0 0 63 (wp_X6_runsAlong_63 P X) := 
  s_iconst hz rfl dX6_runsAlong_63 (go_X6_runsAlong_64 hz hr)
def wp_X6_runsAlong_0 (P : Option Value → hp_T → Prop) (X : String → hp_T → Prop) : KT :=
  i_aload 0 (i_getI 8 512 (i_aload 0 (i_getI 8 514 (i_isub (i_aload 1 (i_getI 8 512 (i_aload 1 (i_getI 8 514 (i_isub (i_imul (i_aload 0 (i_getI 8 513 (i_aload 0 (i_getI 8 515 (i_isub (i_aload 1
    (i_getI 8 513 (i_aload 1 (i_getI 8 515 (i_isub (i_imul (i_iadd (i_istore 2 (i_iload 2 (i_ifle (wp_X6_runsAlong_63 P X) (i_aload 0 (i_aload 1 (i_getI 8 512 (i_aload 1 (i_getI 8 513 (i_callV 2 8 T_X6_sideOf noX
    (i_ifne (wp_X6_runsAlong_63 P X) (i_pushI 1 (wp_X6_runsAlong_64 P X))))))))))))))))))))))))))))))))))
set_option maxRecDepth 20000 in
theorem go_X6_runsAlong_0 {z : zT} {P : Option Value → hp_T → Prop} {X : String → hp_T → Prop} (hz : Cx z cX6_runsAlong 3 "Panelry$Tail" "runsAlong" 2 0 0) (hr : Rt z (some .boolean) P X 0 0) : Go z 0 0 0 (wp_X6_runsAlong_0 P X) := 
  s_aload_n hz rfl dX6_runsAlong_0 (fg_RX6_13 hz dX6_runsAlong_1 (s_aload_n hz rfl dX6_runsAlong_4 (fg_RX6_25 hz dX6_runsAlong_5 (s_isub hz dX6_runsAlong_8 (s_aload_n hz rfl dX6_runsAlong_9
    (fg_RX6_13 hz dX6_runsAlong_10 (s_aload_n hz rfl dX6_runsAlong_13 (fg_RX6_25 hz dX6_runsAlong_14 (s_isub hz dX6_runsAlong_17 (s_imul hz dX6_runsAlong_18 (s_aload_n hz rfl dX6_runsAlong_19
    (fg_RX6_22 hz dX6_runsAlong_20 (s_aload_n hz rfl dX6_runsAlong_23 (fg_RX6_28 hz dX6_runsAlong_24 (s_isub hz dX6_runsAlong_27 (s_aload_n hz rfl dX6_runsAlong_28 (fg_RX6_22 hz dX6_runsAlong_29
    (s_aload_n hz rfl dX6_runsAlong_32 (fg_RX6_28 hz dX6_runsAlong_33 (s_isub hz dX6_runsAlong_36 (s_imul hz dX6_runsAlong_37 (s_iadd hz dX6_runsAlong_38 (s_istore_n hz rfl rfl dX6_runsAlong_39
    (s_iload_n hz rfl dX6_runsAlong_40 (s_ifle hz (tgt := 63) rfl dX6_runsAlong_41 (go_X6_runsAlong_63 hz hr) (s_aload_n hz rfl dX6_runsAlong_44 (s_aload_n hz rfl dX6_runsAlong_45 (fg_RX6_13 hz dX6_runsAlong_46
    (s_aload_n hz rfl dX6_runsAlong_49 (fg_RX6_22 hz dX6_runsAlong_50 (s_callV hz ct_X6_sideOf ⟨w776, w779, w53, by decide, by decide, by decide +kernel⟩ w778 w14 cls7 rfl rfl rfl rfl rfl rfl out_no dX6_runsAlong_53
    (s_ifne hz (tgt := 63) rfl dX6_runsAlong_56 (go_X6_runsAlong_63 hz hr) (s_iconst hz rfl dX6_runsAlong_59 (s_goto hz (tgt := 64) rfl dX6_runsAlong_60 (go_X6_runsAlong_64 hz hr)))))))))))))))))))))))))))))))))))

def T_X6_runsAlong : PT := fun av h P X => match av with
  | [.ref a, .ref b] => (hK h a = 8 ∧ hK h b = 8) ∧ (P (some (.int (bI (tAl h a b)))) h)
  | _ => False
set_option maxRecDepth 20000 in
theorem ct_X6_runsAlong : CT yX6_runsAlong cX6_runsAlong 3 (some .boolean) 2 0 0 T_X6_runsAlong := by
  refine ct_ofE (by decide) (fun z av h P X hT hz hr => ?_) (fun av h P X hT => ?_)
  · unfold T_X6_runsAlong at hT
    split at hT
    · refine ⟨_, go_X6_runsAlong_0 hz hr, ?_⟩
      rename_i a b
      show wp_X6_runsAlong_0 P X [some (.ref a), some (.ref b), none] [] h
      obtain ⟨hk, hp⟩ := hT
      simp only [wp_X6_runsAlong_64, wp_X6_runsAlong_63, wp_X6_runsAlong_0, T_X6_sideOf, i_mmax, i_mmin, i_pushI, i_pushN, i_pushL, i_iload, i_aload, i_istore, i_astore, i_iinc, i_iadd, i_isub, i_imul, i_iand, i_ior, i_ixor, i_ishl, i_ishr, i_iushr, i_idiv, i_i2l, i_lcmp, i_dup, i_pop, i_dupx1, i_dup2, i_ifeq, i_ifne, i_iflt, i_ifge, i_ifgt, i_ifle, i_iceq, i_icne, i_iclt, i_icge, i_icgt, i_icle, i_ifnull, i_aceq, i_getI, i_getR, i_putI, i_putZ, i_putR, i_new, i_newarr, i_ald, i_lald, i_aald, i_alen, i_ast, i_zast, i_last, i_aast, i_aastL, i_cast, i_gste, i_ldcM, i_getC, i_acopy, i_dead, i_objinit, i_callV, i_callS, i_callI, i_iret, i_zret, i_aret, i_vret, i_throw, popN, pushO, lget, lset, isRf_ref, isRf_null, isRf_rf, isC1_int, isC1_ref, isC1_null, isC1_rf, true_and, and_true, List.length_cons, List.length_nil, Nat.reduceAdd, Nat.reduceLeDiff, hK_sI, hN_sI, hR_sI, hI_sI, hK_sR, hN_sR, hR_sR, hI_sR, kC_2, kC_3, kC_4, kC_5, kC_6, kC_7, kC_8, kC_9, kC_10, kC_11, kC_20, kC_21, kC_22, kC_23, i2_0, i1_1, i0_1, i1_0, bI_and, bI_0, Decidable.not_not, not_false_eq_true, not_true_eq_false, forall_const, false_implies, true_implies, hK_copy, hN_copy, hI_copy, hC_sI, hC_sR, hC_new, hK_new, hN_new, hI_new, hR_new, rf_some, rf_none, ex_ref, ex_null, ex_rf, nref_null, rf_null, Nat.reduceEqDiff, reduceCtorEq, false_and, and_false, if_false, if_true, ne_eq, kO_150, kO_151, kO_152, kO_170, kO_180, kO_190, Value.ref.injEq, exists_eq_left', false_or, hk]
      (repeat' (first | (apply And.intro) | (intro _)))
      all_goals first | exact hp | (rw [bI_t (by clear hp; grind)] at hp; exact hp) | (rw [bI_f (by clear hp; grind)] at hp; exact hp) | (simp_all; done)
    · exact hT.elim
  · unfold T_X6_runsAlong at hT
    split at hT
    · exact ⟨Nat.le_of_ble_eq_true rfl, by simp [isC1_int, isC1_ref, isC1_null, isC1_rf]⟩
    · exact hT.elim
def wp_X6_touches_122 (P : Option Value → hp_T → Prop) (X : String → hp_T → Prop) : KT :=
  i_zret P
set_option maxRecDepth 20000 in
theorem go_X6_touches_122 {z : zT} {P : Option Value → hp_T → Prop} {X : String → hp_T → Prop} (hz : Cx z cX6_touches 4 "Panelry$Tail" "touches" 2 0 0) (hr : Rt z (some .boolean) P X 0 0) : Go z 0 0 122 (wp_X6_touches_122 P X) := 
  s_zret hz hr rfl rfl dX6_touches_122
def wp_X6_touches_121 (P : Option Value → hp_T → Prop) (X : String → hp_T → Prop) : KT :=
  i_pushI 0 (wp_X6_touches_122 P X)
set_option maxRecDepth 20000 in
theorem go_X6_touches_121 {z : zT} {P : Option Value → hp_T → Prop} {X : String → hp_T → Prop} (hz : Cx z cX6_touches 4 "Panelry$Tail" "touches" 2 0 0) (hr : Rt z (some .boolean) P X 0 0) : Go z 0 0 121 (wp_X6_touches_121 P X) := 
  s_iconst hz rfl dX6_touches_121 (go_X6_touches_122 hz hr)
def wp_X6_touches_68 (P : Option Value → hp_T → Prop) (X : String → hp_T → Prop) : KT :=
  i_istore 3 (i_iload 3 (i_ifne (wp_X6_touches_121 P X) (i_aload 0 (i_getI 8 512 (i_aload 0 (i_getI 8 514 (i_aload 1 (i_getI 3 192 (i_aload 1 (i_callV 0 3 T_X1_endX noX (i_callS 4 T_X6_isSpanMet noX
    (i_ifeq (wp_X6_touches_121 P X) (i_aload 0 (i_getI 8 513 (i_aload 0 (i_getI 8 515 (i_aload 1 (i_getI 3 193 (i_aload 1 (i_callV 0 3 T_X1_endY noX (i_callS 4 T_X6_isSpanMet noX (i_ifeq
    (wp_X6_touches_121 P X) (i_pushI 1 (wp_X6_touches_122 P X))))))))))))))))))))))))
set_option maxRecDepth 20000 in
theorem go_X6_touches_68 {z : zT} {P : Option Value → hp_T → Prop} {X : String → hp_T → Prop} (hz : Cx z cX6_touches 4 "Panelry$Tail" "touches" 2 0 0) (hr : Rt z (some .boolean) P X 0 0) : Go z 0 0 68 (wp_X6_touches_68 P X) := 
  s_istore_n hz rfl rfl dX6_touches_68 (s_iload_n hz rfl dX6_touches_69 (s_ifne hz (tgt := 121) rfl dX6_touches_70 (go_X6_touches_121 hz hr) (s_aload_n hz rfl dX6_touches_73 (fg_RX6_13 hz dX6_touches_74
    (s_aload_n hz rfl dX6_touches_77 (fg_RX6_25 hz dX6_touches_78 (s_aload_n hz rfl dX6_touches_81 (fg_RX6_39 hz dX6_touches_82 (s_aload_n hz rfl dX6_touches_85 (s_callV hz ct_X1_endX ⟨w783, w477, w47, by decide, by decide, by decide +kernel⟩ w475 w476 cls2 rfl rfl rfl rfl rfl rfl out_no dX6_touches_86
    (s_callS hz ct_X6_isSpanMet ⟨w785, w787, w53, by decide, by decide, by decide +kernel⟩ w786 rfl rfl rfl rfl out_no dX6_touches_89 (s_ifeq hz (tgt := 121) rfl dX6_touches_92 (go_X6_touches_121 hz hr)
    (s_aload_n hz rfl dX6_touches_95 (fg_RX6_22 hz dX6_touches_96 (s_aload_n hz rfl dX6_touches_99 (fg_RX6_28 hz dX6_touches_100 (s_aload_n hz rfl dX6_touches_103 (fg_RX6_42 hz dX6_touches_104
    (s_aload_n hz rfl dX6_touches_107 (s_callV hz ct_X1_endY ⟨w784, w481, w47, by decide, by decide, by decide +kernel⟩ w479 w480 cls2 rfl rfl rfl rfl rfl rfl out_no dX6_touches_108 (s_callS hz ct_X6_isSpanMet ⟨w785, w787, w53, by decide, by decide, by decide +kernel⟩ w786 rfl rfl rfl rfl out_no dX6_touches_111
    (s_ifeq hz (tgt := 121) rfl dX6_touches_114 (go_X6_touches_121 hz hr) (s_iconst hz rfl dX6_touches_117 (s_goto hz (tgt := 122) rfl dX6_touches_118 (go_X6_touches_122 hz hr)))))))))))))))))))))))))
def wp_X6_touches_63 (P : Option Value → hp_T → Prop) (X : String → hp_T → Prop) : KT :=
  i_pushI 1 (wp_X6_touches_68 P X)
set_option maxRecDepth 20000 in
theorem go_X6_touches_63 {z : zT} {P : Option Value → hp_T → Prop} {X : String → hp_T → Prop} (hz : Cx z cX6_touches 4 "Panelry$Tail" "touches" 2 0 0) (hr : Rt z (some .boolean) P X 0 0) : Go z 0 0 63 (wp_X6_touches_63 P X) := 
  s_iconst hz rfl dX6_touches_63 (s_goto hz (tgt := 68) rfl dX6_touches_64 (go_X6_touches_68 hz hr))
def wp_X6_touches_0 (P : Option Value → hp_T → Prop) (X : String → hp_T → Prop) : KT :=
  i_aload 0 (i_aload 1 (i_getI 3 192 (i_aload 1 (i_getI 3 193 (i_callV 2 8 T_X6_sideOf noX (i_aload 0 (i_aload 1 (i_callV 0 3 T_X1_endX noX (i_aload 1 (i_getI 3 193 (i_callV 2 8 T_X6_sideOf noX
    (i_iadd (i_aload 0 (i_aload 1 (i_getI 3 192 (i_aload 1 (i_callV 0 3 T_X1_endY noX (i_callV 2 8 T_X6_sideOf noX (i_iadd (i_aload 0 (i_aload 1 (i_callV 0 3 T_X1_endX noX (i_aload 1 (i_callV 0 3 T_X1_endY noX
    (i_callV 2 8 T_X6_sideOf noX (i_iadd (i_istore 2 (i_iload 2 (i_pushI 4 (i_iceq (wp_X6_touches_63 P X) (i_iload 2 (i_pushI (-4) (i_icne (i_pushI 0 (wp_X6_touches_68 P X)) (wp_X6_touches_63 P X))))))))))))))))))))))))))))))))))
set_option maxRecDepth 20000 in
theorem go_X6_touches_0 {z : zT} {P : Option Value → hp_T → Prop} {X : String → hp_T → Prop} (hz : Cx z cX6_touches 4 "Panelry$Tail" "touches" 2 0 0) (hr : Rt z (some .boolean) P X 0 0) : Go z 0 0 0 (wp_X6_touches_0 P X) := 
  s_aload_n hz rfl dX6_touches_0 (s_aload_n hz rfl dX6_touches_1 (fg_RX6_39 hz dX6_touches_2 (s_aload_n hz rfl dX6_touches_5 (fg_RX6_42 hz dX6_touches_6 (s_callV hz ct_X6_sideOf ⟨w776, w779, w53, by decide, by decide, by decide +kernel⟩ w778 w14 cls7 rfl rfl rfl rfl rfl rfl out_no dX6_touches_9
    (s_aload_n hz rfl dX6_touches_12 (s_aload_n hz rfl dX6_touches_13 (s_callV hz ct_X1_endX ⟨w783, w477, w47, by decide, by decide, by decide +kernel⟩ w475 w476 cls2 rfl rfl rfl rfl rfl rfl out_no dX6_touches_14
    (s_aload_n hz rfl dX6_touches_17 (fg_RX6_42 hz dX6_touches_18 (s_callV hz ct_X6_sideOf ⟨w776, w779, w53, by decide, by decide, by decide +kernel⟩ w778 w14 cls7 rfl rfl rfl rfl rfl rfl out_no dX6_touches_21
    (s_iadd hz dX6_touches_24 (s_aload_n hz rfl dX6_touches_25 (s_aload_n hz rfl dX6_touches_26 (fg_RX6_39 hz dX6_touches_27 (s_aload_n hz rfl dX6_touches_30 (s_callV hz ct_X1_endY ⟨w784, w481, w47, by decide, by decide, by decide +kernel⟩ w479 w480 cls2 rfl rfl rfl rfl rfl rfl out_no dX6_touches_31
    (s_callV hz ct_X6_sideOf ⟨w776, w779, w53, by decide, by decide, by decide +kernel⟩ w778 w14 cls7 rfl rfl rfl rfl rfl rfl out_no dX6_touches_34 (s_iadd hz dX6_touches_37 (s_aload_n hz rfl dX6_touches_38
    (s_aload_n hz rfl dX6_touches_39 (s_callV hz ct_X1_endX ⟨w783, w477, w47, by decide, by decide, by decide +kernel⟩ w475 w476 cls2 rfl rfl rfl rfl rfl rfl out_no dX6_touches_40 (s_aload_n hz rfl dX6_touches_43
    (s_callV hz ct_X1_endY ⟨w784, w481, w47, by decide, by decide, by decide +kernel⟩ w479 w480 cls2 rfl rfl rfl rfl rfl rfl out_no dX6_touches_44 (s_callV hz ct_X6_sideOf ⟨w776, w779, w53, by decide, by decide, by decide +kernel⟩ w778 w14 cls7 rfl rfl rfl rfl rfl rfl out_no dX6_touches_47
    (s_iadd hz dX6_touches_50 (s_istore_n hz rfl rfl dX6_touches_51 (s_iload_n hz rfl dX6_touches_52 (s_iconst hz rfl dX6_touches_53 (s_iceq hz (tgt := 63) rfl dX6_touches_54 (go_X6_touches_63 hz hr)
    (s_iload_n hz rfl dX6_touches_57 (s_bipush hz rfl dX6_touches_58 (s_icne hz (tgt := 67) rfl dX6_touches_60 (s_iconst hz rfl dX6_touches_67 (go_X6_touches_68 hz hr)) (go_X6_touches_63 hz hr))))))))))))))))))))))))))))))))))

def T_X6_touches : PT := fun av h P X => match av with
  | [.ref a, .ref b] => (hK h a = 8 ∧ hK h b = 3) ∧ (P (some (.int (bI (tTo h a b)))) h)
  | _ => False
set_option maxRecDepth 20000 in
theorem ct_X6_touches : CT yX6_touches cX6_touches 4 (some .boolean) 2 0 0 T_X6_touches := by
  refine ct_ofE (by decide) (fun z av h P X hT hz hr => ?_) (fun av h P X hT => ?_)
  · unfold T_X6_touches at hT
    split at hT
    · refine ⟨_, go_X6_touches_0 hz hr, ?_⟩
      rename_i a b
      show wp_X6_touches_0 P X [some (.ref a), some (.ref b), none, none] [] h
      obtain ⟨hk, hp⟩ := hT
      simp only [wp_X6_touches_122, wp_X6_touches_121, wp_X6_touches_68, wp_X6_touches_63, wp_X6_touches_0, T_X6_sideOf, T_X1_endX, T_X1_endY, T_X6_isSpanMet, i_mmax, i_mmin, i_pushI, i_pushN, i_pushL, i_iload, i_aload, i_istore, i_astore, i_iinc, i_iadd, i_isub, i_imul, i_iand, i_ior, i_ixor, i_ishl, i_ishr, i_iushr, i_idiv, i_i2l, i_lcmp, i_dup, i_pop, i_dupx1, i_dup2, i_ifeq, i_ifne, i_iflt, i_ifge, i_ifgt, i_ifle, i_iceq, i_icne, i_iclt, i_icge, i_icgt, i_icle, i_ifnull, i_aceq, i_getI, i_getR, i_putI, i_putZ, i_putR, i_new, i_newarr, i_ald, i_lald, i_aald, i_alen, i_ast, i_zast, i_last, i_aast, i_aastL, i_cast, i_gste, i_ldcM, i_getC, i_acopy, i_dead, i_objinit, i_callV, i_callS, i_callI, i_iret, i_zret, i_aret, i_vret, i_throw, popN, pushO, lget, lset, isRf_ref, isRf_null, isRf_rf, isC1_int, isC1_ref, isC1_null, isC1_rf, true_and, and_true, List.length_cons, List.length_nil, Nat.reduceAdd, Nat.reduceLeDiff, hK_sI, hN_sI, hR_sI, hI_sI, hK_sR, hN_sR, hR_sR, hI_sR, kC_2, kC_3, kC_4, kC_5, kC_6, kC_7, kC_8, kC_9, kC_10, kC_11, kC_20, kC_21, kC_22, kC_23, i2_0, i1_1, i0_1, i1_0, bI_and, bI_0, Decidable.not_not, not_false_eq_true, not_true_eq_false, forall_const, false_implies, true_implies, hK_copy, hN_copy, hI_copy, hC_sI, hC_sR, hC_new, hK_new, hN_new, hI_new, hR_new, rf_some, rf_none, ex_ref, ex_null, ex_rf, nref_null, rf_null, Nat.reduceEqDiff, reduceCtorEq, false_and, and_false, if_false, if_true, ne_eq, kO_150, kO_151, kO_152, kO_170, kO_180, kO_190, Value.ref.injEq, exists_eq_left', false_or, hk]
      (repeat' (first | (apply And.intro) | (intro _)))
      all_goals first | exact hp | (rw [bI_t (by clear hp; grind)] at hp; exact hp) | (rw [bI_f (by clear hp; grind)] at hp; exact hp) | (simp_all; done)
    · exact hT.elim
  · unfold T_X6_touches at hT
    split at hT
    · exact ⟨Nat.le_of_ble_eq_true rfl, by simp [isC1_int, isC1_ref, isC1_null, isC1_rf]⟩
    · exact hT.elim
def wp_X8_isIn_14 (P : Option Value → hp_T → Prop) (X : String → hp_T → Prop) : KT :=
  i_zret P
set_option maxRecDepth 20000 in
theorem go_X8_isIn_14 {z : zT} {P : Option Value → hp_T → Prop} {X : String → hp_T → Prop} (hz : Cx z cX8_isIn 2 "Panelry" "isIn" 0 0 0) (hr : Rt z (some .boolean) P X 0 0) : Go z 0 0 14 (wp_X8_isIn_14 P X) := 
  s_zret hz hr rfl rfl dX8_isIn_14
def wp_X8_isIn_0 (P : Option Value → hp_T → Prop) (X : String → hp_T → Prop) : KT :=
  i_iload 0 (i_iload 1 (i_ishr (i_pushI 1 (i_iand (i_pushI 1 (i_icne (i_pushI 0 (wp_X8_isIn_14 P X)) (i_pushI 1 (wp_X8_isIn_14 P X))))))))
set_option maxRecDepth 20000 in
theorem go_X8_isIn_0 {z : zT} {P : Option Value → hp_T → Prop} {X : String → hp_T → Prop} (hz : Cx z cX8_isIn 2 "Panelry" "isIn" 0 0 0) (hr : Rt z (some .boolean) P X 0 0) : Go z 0 0 0 (wp_X8_isIn_0 P X) := 
  s_iload_n hz rfl dX8_isIn_0 (s_iload_n hz rfl dX8_isIn_1 (s_ishr hz dX8_isIn_2 (s_iconst hz rfl dX8_isIn_3 (s_iand hz dX8_isIn_4 (s_iconst hz rfl dX8_isIn_5 (s_icne hz (tgt := 13) rfl dX8_isIn_6
    (s_iconst hz rfl dX8_isIn_13 (go_X8_isIn_14 hz hr)) (s_iconst hz rfl dX8_isIn_9 (s_goto hz (tgt := 14) rfl dX8_isIn_10 (go_X8_isIn_14 hz hr)))))))))

def T_X8_isIn : PT := fun av h P X => match av with
  | [.int s, .int n] => (True) ∧ (P (some (.int (bI ((s >>> (n &&& 31)) &&& 1 = 1)))) h)
  | _ => False
set_option maxRecDepth 20000 in
theorem ct_X8_isIn : CT yX8_isIn cX8_isIn 2 (some .boolean) 0 0 0 T_X8_isIn := by
  refine ct_ofE (by decide) (fun z av h P X hT hz hr => ?_) (fun av h P X hT => ?_)
  · unfold T_X8_isIn at hT
    split at hT
    · refine ⟨_, go_X8_isIn_0 hz hr, ?_⟩
      rename_i s n
      show wp_X8_isIn_0 P X [some (.int s), some (.int n)] [] h
      obtain ⟨hk, hp⟩ := hT
      simp only [wp_X8_isIn_14, wp_X8_isIn_0, i_mmax, i_mmin, i_pushI, i_pushN, i_pushL, i_iload, i_aload, i_istore, i_astore, i_iinc, i_iadd, i_isub, i_imul, i_iand, i_ior, i_ixor, i_ishl, i_ishr, i_iushr, i_idiv, i_i2l, i_lcmp, i_dup, i_pop, i_dupx1, i_dup2, i_ifeq, i_ifne, i_iflt, i_ifge, i_ifgt, i_ifle, i_iceq, i_icne, i_iclt, i_icge, i_icgt, i_icle, i_ifnull, i_aceq, i_getI, i_getR, i_putI, i_putZ, i_putR, i_new, i_newarr, i_ald, i_lald, i_aald, i_alen, i_ast, i_zast, i_last, i_aast, i_aastL, i_cast, i_gste, i_ldcM, i_getC, i_acopy, i_dead, i_objinit, i_callV, i_callS, i_callI, i_iret, i_zret, i_aret, i_vret, i_throw, popN, pushO, lget, lset, isRf_ref, isRf_null, isRf_rf, isC1_int, isC1_ref, isC1_null, isC1_rf, true_and, and_true, List.length_cons, List.length_nil, Nat.reduceAdd, Nat.reduceLeDiff, hK_sI, hN_sI, hR_sI, hI_sI, hK_sR, hN_sR, hR_sR, hI_sR, kC_2, kC_3, kC_4, kC_5, kC_6, kC_7, kC_8, kC_9, kC_10, kC_11, kC_20, kC_21, kC_22, kC_23, i2_0, i1_1, i0_1, i1_0, bI_and, bI_0, Decidable.not_not, not_false_eq_true, not_true_eq_false, forall_const, false_implies, true_implies, hK_copy, hN_copy, hI_copy, hC_sI, hC_sR, hC_new, hK_new, hN_new, hI_new, hR_new, rf_some, rf_none, ex_ref, ex_null, ex_rf, nref_null, rf_null, Nat.reduceEqDiff, reduceCtorEq, false_and, and_false, if_false, if_true, ne_eq, kO_150, kO_151, kO_152, kO_170, kO_180, kO_190, Value.ref.injEq, exists_eq_left', false_or, hk]
      (repeat' (first | (apply And.intro) | (intro _)))
      all_goals first | exact hp | (rw [bI_t (by clear hp; grind)] at hp; exact hp) | (rw [bI_f (by clear hp; grind)] at hp; exact hp) | (simp_all; done)
    · exact hT.elim
  · unfold T_X8_isIn at hT
    split at hT
    · exact ⟨Nat.le_of_ble_eq_true rfl, by simp [isC1_int, isC1_ref, isC1_null, isC1_rf]⟩
    · exact hT.elim
