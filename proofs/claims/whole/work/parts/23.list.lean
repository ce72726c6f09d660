def lsz (h : hp_T) (a : Nat) : Nat := (hI h (64 * hK h a + 2) a 0).toNatClampNeg
def lda (h : hp_T) (a : Nat) : Nat := dR h (64 * hK h a + 1) a
def lel (h : hp_T) (a i : Nat) : Nat := (hR h (hK h a + 140) (lda h a) i).getD 0
/-- a list that stands: its row, its size, its things -/
def lOK (h : hp_T) (a : Nat) : Prop := isL (hK h a) ∧ hR h (64 * hK h a + 1) a 0 = some (lda h a) ∧ hI h (64 * hK h a + 2) a 0 = nI (lsz h a) ∧ lsz h a ≤ 40 ∧
  ((lda h a = hC h 0 ∧ lsz h a = 0 ∧ hK h (lda h a) = 190 ∧ hN h (lda h a) = 0) ∨ (hK h (lda h a) = hK h a + 140 ∧ lsz h a ≤ hN h (lda h a) ∧ 1 ≤ hN h (lda h a) ∧ hN h (lda h a) ≤ 60)) ∧ ∀ i, i < lsz h a → hR h (hK h a + 140) (lda h a) i = some (lel h a i) ∧ objK (hK h (lel h a i))
theorem vp_in_lt {i : Int32} {n m : Nat} (h0 : ¬ i < 0) (h1 : i < nI n) (hn : n ≤ m) (hm : m < 1000) : vp_in i m ∧ i.toNatClampNeg < n := by
  obtain ⟨j, hj, rfl⟩ := nI_of h0
  have h2 : j < n := (nI_ltI hj (by omega)).mp h1
  rw [nI_clamp hj]
  exact ⟨vp_in_nI (by omega) (by omega), h2⟩
theorem cl_nI {n : Nat} (h : n < 1000) : (nI n).toNatClampNeg = n := nI_clamp (by omega)
def wp_J3_checkIndex_8e157_9 (P : Option Value → hp_T → Prop) (X : String → hp_T → Prop) : KT :=
  i_dead
set_option maxRecDepth 20000 in
theorem go_J3_checkIndex_8e157_9 {z : zT} {P : Option Value → hp_T → Prop} {X : String → hp_T → Prop} (hz : Cx z cJ3_checkIndex_8e157 3 "jdk/internal/util/Preconditions" "checkIndex" 0 0 0) (hr : Rt z (some .int) P X 0 0) : Go z 0 0 9 (wp_J3_checkIndex_8e157_9 P X) := 
  Go.fls
def wp_J3_checkIndex_8e157_0 (P : Option Value → hp_T → Prop) (X : String → hp_T → Prop) : KT :=
  i_iload 0 (i_iflt (wp_J3_checkIndex_8e157_9 P X) (i_iload 0 (i_iload 1 (i_iclt (i_iload 0 (i_iret P)) (wp_J3_checkIndex_8e157_9 P X)))))
set_option maxRecDepth 20000 in
theorem go_J3_checkIndex_8e157_0 {z : zT} {P : Option Value → hp_T → Prop} {X : String → hp_T → Prop} (hz : Cx z cJ3_checkIndex_8e157 3 "jdk/internal/util/Preconditions" "checkIndex" 0 0 0) (hr : Rt z (some .int) P X 0 0) : Go z 0 0 0 (wp_J3_checkIndex_8e157_0 P X) := 
  s_iload_n hz rfl dJ3_checkIndex_8e157_0 (s_iflt hz (tgt := 9) rfl dJ3_checkIndex_8e157_1 (go_J3_checkIndex_8e157_9 hz hr) (s_iload_n hz rfl dJ3_checkIndex_8e157_4 (s_iload_n hz rfl dJ3_checkIndex_8e157_5
    (s_iclt hz (tgt := 16) rfl dJ3_checkIndex_8e157_6 (s_iload_n hz rfl dJ3_checkIndex_8e157_16 (s_iret hz hr rfl rfl dJ3_checkIndex_8e157_17)) (go_J3_checkIndex_8e157_9 hz hr)))))

def T_J3_checkIndex_8e157 : PT := fun av h P X => match av with
  | [.int i, .int n, .null] => (¬ i < 0 ∧ i < n) ∧ (P (some (.int i)) h)
  | _ => False
set_option maxRecDepth 20000 in
theorem ct_J3_checkIndex_8e157 : CT yJ3_checkIndex_8e157 cJ3_checkIndex_8e157 3 (some .int) 0 0 0 T_J3_checkIndex_8e157 := by
  refine ct_ofE (by decide) (fun z av h P X hT hz hr => ?_) (fun av h P X hT => ?_)
  · unfold T_J3_checkIndex_8e157 at hT
    split at hT
    · refine ⟨_, go_J3_checkIndex_8e157_0 hz hr, ?_⟩
      rename_i i n
      show wp_J3_checkIndex_8e157_0 P X [some (.int i), some (.int n), some (.null)] [] h
      obtain ⟨hk, hp⟩ := hT
      simp only [wp_J3_checkIndex_8e157_9, wp_J3_checkIndex_8e157_0, i_mmax, i_mmin, i_pushI, i_pushN, i_pushL, i_iload, i_aload, i_istore, i_astore, i_iinc, i_iadd, i_isub, i_imul, i_iand, i_ior, i_ixor, i_ishl, i_ishr, i_iushr, i_idiv, i_i2l, i_lcmp, i_dup, i_pop, i_dupx1, i_dup2, i_ifeq, i_ifne, i_iflt, i_ifge, i_ifgt, i_ifle, i_iceq, i_icne, i_iclt, i_icge, i_icgt, i_icle, i_ifnull, i_aceq, i_getI, i_getR, i_putI, i_putZ, i_putR, i_new, i_newarr, i_ald, i_lald, i_aald, i_alen, i_ast, i_zast, i_last, i_aast, i_aastL, i_cast, i_gste, i_ldcM, i_getC, i_acopy, i_dead, i_objinit, i_callV, i_callS, i_callI, i_iret, i_zret, i_aret, i_vret, i_throw, popN, pushO, lget, lset, isRf_ref, isRf_null, isRf_rf, isC1_int, isC1_ref, isC1_null, isC1_rf, true_and, and_true, List.length_cons, List.length_nil, Nat.reduceAdd, Nat.reduceLeDiff, hK_sI, hN_sI, hR_sI, hI_sI, hK_sR, hN_sR, hR_sR, hI_sR, kC_2, kC_3, kC_4, kC_5, kC_6, kC_7, kC_8, kC_9, kC_10, kC_11, kC_20, kC_21, kC_22, kC_23, i2_0, i1_1, i0_1, i1_0, bI_and, bI_0, Decidable.not_not, not_false_eq_true, not_true_eq_false, forall_const, false_implies, true_implies, hK_copy, hN_copy, hI_copy, hC_sI, hC_sR, hC_new, hK_new, hN_new, hI_new, hR_new, rf_some, rf_none, ex_ref, ex_null, ex_rf, nref_null, rf_null, Nat.reduceEqDiff, reduceCtorEq, false_and, and_false, if_false, if_true, ne_eq, kO_150, kO_151, kO_152, kO_170, kO_180, kO_190, Value.ref.injEq, exists_eq_left', false_or, hk]
      exact hp
    · exact hT.elim
  · unfold T_J3_checkIndex_8e157 at hT
    split at hT
    · exact ⟨Nat.le_of_ble_eq_true rfl, by simp [isC1_int, isC1_ref, isC1_null, isC1_rf]⟩
    · exact hT.elim
def wp_J15_checkIndex_7cf53_0 (P : Option Value → hp_T → Prop) (X : String → hp_T → Prop) : KT :=
  i_iload 0 (i_iload 1 (i_pushN (i_callS 3 T_J3_checkIndex_8e157 noX (i_iret P))))
set_option maxRecDepth 20000 in
theorem go_J15_checkIndex_7cf53_0 {z : zT} {P : Option Value → hp_T → Prop} {X : String → hp_T → Prop} (hz : Cx z cJ15_checkIndex_7cf53 2 "java/util/Objects" "checkIndex" 1 0 0) (hr : Rt z (some .int) P X 0 0) : Go z 0 0 0 (wp_J15_checkIndex_7cf53_0 P X) := 
  s_iload_n hz rfl dJ15_checkIndex_7cf53_0 (s_iload_n hz rfl dJ15_checkIndex_7cf53_1 (s_null hz dJ15_checkIndex_7cf53_2 (s_callS hz ct_J3_checkIndex_8e157 ⟨w123, w125, w45, by decide, by decide, by decide +kernel⟩ w124 rfl rfl rfl rfl out_no dJ15_checkIndex_7cf53_3
    (s_iret hz hr rfl rfl dJ15_checkIndex_7cf53_6))))

def T_J15_checkIndex_7cf53 : PT := fun av h P X => match av with
  | [.int i, .int n] => (¬ i < 0 ∧ i < n) ∧ (P (some (.int i)) h)
  | _ => False
set_option maxRecDepth 20000 in
theorem ct_J15_checkIndex_7cf53 : CT yJ15_checkIndex_7cf53 cJ15_checkIndex_7cf53 2 (some .int) 1 0 0 T_J15_checkIndex_7cf53 := by
  refine ct_ofE (by decide) (fun z av h P X hT hz hr => ?_) (fun av h P X hT => ?_)
  · unfold T_J15_checkIndex_7cf53 at hT
    split at hT
    · refine ⟨_, go_J15_checkIndex_7cf53_0 hz hr, ?_⟩
      rename_i i n
      show wp_J15_checkIndex_7cf53_0 P X [some (.int i), some (.int n)] [] h
      obtain ⟨hk, hp⟩ := hT
      simp only [wp_J15_checkIndex_7cf53_0, T_J3_checkIndex_8e157, i_mmax, i_mmin, i_pushI, i_pushN, i_pushL, i_iload, i_aload, i_istore, i_astore, i_iinc, i_iadd, i_isub, i_imul, i_iand, i_ior, i_ixor, i_ishl, i_ishr, i_iushr, i_idiv, i_i2l, i_lcmp, i_dup, i_pop, i_dupx1, i_dup2, i_ifeq, i_ifne, i_iflt, i_ifge, i_ifgt, i_ifle, i_iceq, i_icne, i_iclt, i_icge, i_icgt, i_icle, i_ifnull, i_aceq, i_getI, i_getR, i_putI, i_putZ, i_putR, i_new, i_newarr, i_ald, i_lald, i_aald, i_alen, i_ast, i_zast, i_last, i_aast, i_aastL, i_cast, i_gste, i_ldcM, i_getC, i_acopy, i_dead, i_objinit, i_callV, i_callS, i_callI, i_iret, i_zret, i_aret, i_vret, i_throw, popN, pushO, lget, lset, isRf_ref, isRf_null, isRf_rf, isC1_int, isC1_ref, isC1_null, isC1_rf, true_and, and_true, List.length_cons, List.length_nil, Nat.reduceAdd, Nat.reduceLeDiff, hK_sI, hN_sI, hR_sI, hI_sI, hK_sR, hN_sR, hR_sR, hI_sR, kC_2, kC_3, kC_4, kC_5, kC_6, kC_7, kC_8, kC_9, kC_10, kC_11, kC_20, kC_21, kC_22, kC_23, i2_0, i1_1, i0_1, i1_0, bI_and, bI_0, Decidable.not_not, not_false_eq_true, not_true_eq_false, forall_const, false_implies, true_implies, hK_copy, hN_copy, hI_copy, hC_sI, hC_sR, hC_new, hK_new, hN_new, hI_new, hR_new, rf_some, rf_none, ex_ref, ex_null, ex_rf, nref_null, rf_null, Nat.reduceEqDiff, reduceCtorEq, false_and, and_false, if_false, if_true, ne_eq, kO_150, kO_151, kO_152, kO_170, kO_180, kO_190, Value.ref.injEq, exists_eq_left', false_or, hk]
      exact hp
    · exact hT.elim
  · unfold T_J15_checkIndex_7cf53 at hT
    split at hT
    · exact ⟨Nat.le_of_ble_eq_true rfl, by simp [isC1_int, isC1_ref, isC1_null, isC1_rf]⟩
    · exact hT.elim
def wp_Jx4a65c_size_8abf5_0 (kd : Nat) (P : Option Value → hp_T → Prop) (X : String → hp_T → Prop) : KT :=
  i_aload 0 (i_getI kd (64 * kd + 2) (i_iret P))
set_option maxRecDepth 20000 in
theorem go_Jx4a65c_size_8abf5_0 {kd : Nat} (hkL : isL kd) {z : zT} {P : Option Value → hp_T → Prop} {X : String → hp_T → Prop} (hz : Cx z cJx4a65c_size_8abf5 1 "java/util/ArrayList" "size" 0 0 0) (hr : Rt z (some .int) P X 0 0) : Go z 0 0 0 (wp_Jx4a65c_size_8abf5_0 kd P X) := have hkd := isL_kO hkL; have hk0 := isL_0 hkL;
  s_aload_n hz rfl dJx4a65c_size_8abf5_0 (s_getI (i := 2) hz hkd hk0 cls0 rfl rfl ⟨w78, Or.inl rfl⟩ dJx4a65c_size_8abf5_1 (s_iret hz hr rfl rfl dJx4a65c_size_8abf5_4))

def T_Jx4a65c_size_8abf5 : PT := fun av h P X => match av with
  | [.ref a] => (lOK h a) ∧ (P (some (.int (nI (lsz h a)))) h)
  | _ => False
set_option maxRecDepth 20000 in
theorem ct_Jx4a65c_size_8abf5 : CT yJx4a65c_size_8abf5 cJx4a65c_size_8abf5 1 (some .int) 0 0 0 T_Jx4a65c_size_8abf5 := by
  refine ct_ofE (by decide) (fun z av h P X hT hz hr => ?_) (fun av h P X hT => ?_)
  · unfold T_Jx4a65c_size_8abf5 at hT
    split at hT
    · refine ⟨_, go_Jx4a65c_size_8abf5_0 (hT.1.1) hz hr, ?_⟩
      rename_i a
      show wp_Jx4a65c_size_8abf5_0 (hK h a) P X [some (.ref a)] [] h
      obtain ⟨hk, hp⟩ := hT
      simp only [wp_Jx4a65c_size_8abf5_0, i_mmax, i_mmin, i_pushI, i_pushN, i_pushL, i_iload, i_aload, i_istore, i_astore, i_iinc, i_iadd, i_isub, i_imul, i_iand, i_ior, i_ixor, i_ishl, i_ishr, i_iushr, i_idiv, i_i2l, i_lcmp, i_dup, i_pop, i_dupx1, i_dup2, i_ifeq, i_ifne, i_iflt, i_ifge, i_ifgt, i_ifle, i_iceq, i_icne, i_iclt, i_icge, i_icgt, i_icle, i_ifnull, i_aceq, i_getI, i_getR, i_putI, i_putZ, i_putR, i_new, i_newarr, i_ald, i_lald, i_aald, i_alen, i_ast, i_zast, i_last, i_aast, i_aastL, i_cast, i_gste, i_ldcM, i_getC, i_acopy, i_dead, i_objinit, i_callV, i_callS, i_callI, i_iret, i_zret, i_aret, i_vret, i_throw, popN, pushO, lget, lset, isRf_ref, isRf_null, isRf_rf, isC1_int, isC1_ref, isC1_null, isC1_rf, true_and, and_true, List.length_cons, List.length_nil, Nat.reduceAdd, Nat.reduceLeDiff, hK_sI, hN_sI, hR_sI, hI_sI, hK_sR, hN_sR, hR_sR, hI_sR, kC_2, kC_3, kC_4, kC_5, kC_6, kC_7, kC_8, kC_9, kC_10, kC_11, kC_20, kC_21, kC_22, kC_23, i2_0, i1_1, i0_1, i1_0, bI_and, bI_0, Decidable.not_not, not_false_eq_true, not_true_eq_false, forall_const, false_implies, true_implies, hK_copy, hN_copy, hI_copy, hC_sI, hC_sR, hC_new, hK_new, hN_new, hI_new, hR_new, rf_some, rf_none, ex_ref, ex_null, ex_rf, nref_null, rf_null, Nat.reduceEqDiff, reduceCtorEq, false_and, and_false, if_false, if_true, ne_eq, kO_150, kO_151, kO_152, kO_170, kO_180, kO_190, Value.ref.injEq, exists_eq_left', false_or]
      rw [hk.2.2.1]
      exact hp
    · exact hT.elim
  · unfold T_Jx4a65c_size_8abf5 at hT
    split at hT
    · exact ⟨Nat.le_of_ble_eq_true rfl, by simp [isC1_int, isC1_ref, isC1_null, isC1_rf]⟩
    · exact hT.elim
def wp_Jx4a65c_elementData_915e3_0 (kd : Nat) (P : Option Value → hp_T → Prop) (X : String → hp_T → Prop) : KT :=
  i_aload 0 (i_getR kd (64 * kd + 1) (i_iload 1 (i_aald (kd + 140) (i_aret P))))
set_option maxRecDepth 20000 in
theorem go_Jx4a65c_elementData_915e3_0 {kd : Nat} (hkL : isL kd) {z : zT} {P : Option Value → hp_T → Prop} {X : String → hp_T → Prop} (hz : Cx z cJx4a65c_elementData_915e3 2 "java/util/ArrayList" "elementData" 0 0 0) (hr : Rt z (some (.object "java/lang/Object")) P X 0 0) : Go z 0 0 0 (wp_Jx4a65c_elementData_915e3_0 kd P X) := have hkd := isL_kO hkL; have hk0 := isL_0 hkL;
  s_aload_n hz rfl dJx4a65c_elementData_915e3_0 (s_getR (i := 1) hz hkd hk0 cls0 rfl rfl ⟨w77, Or.inl rfl⟩ dJx4a65c_elementData_915e3_1 (s_iload_n hz rfl dJx4a65c_elementData_915e3_4 (s_aald hz
    (hkD kd hkL) (hkD0 kd) (hkDA kd hkL) (Or.inl rfl) dJx4a65c_elementData_915e3_5 (s_aret hz hr (Or.inl ⟨_, rfl⟩) rfl rfl dJx4a65c_elementData_915e3_6))))

def T_Jx4a65c_elementData_915e3 : PT := fun av h P X => match av with
  | [.ref a, .int i] => (lOK h a ∧ ¬ i < 0 ∧ i < nI (lsz h a)) ∧ (P (some (.ref (lel h a i.toNatClampNeg))) h)
  | _ => False
set_option maxRecDepth 20000 in
theorem ct_Jx4a65c_elementData_915e3 : CT yJx4a65c_elementData_915e3 cJx4a65c_elementData_915e3 2 (some (.object "java/lang/Object")) 0 0 0 T_Jx4a65c_elementData_915e3 := by
  refine ct_ofE (by decide) (fun z av h P X hT hz hr => ?_) (fun av h P X hT => ?_)
  · unfold T_Jx4a65c_elementData_915e3 at hT
    split at hT
    · refine ⟨_, go_Jx4a65c_elementData_915e3_0 (hT.1.1.1) hz hr, ?_⟩
      rename_i a i
      show wp_Jx4a65c_elementData_915e3_0 (hK h a) P X [some (.ref a), some (.int i)] [] h
      obtain ⟨hk, hp⟩ := hT
      obtain ⟨⟨k1, k2, k3, k4, k5, k6⟩, k7, k8⟩ := hk
      rcases k5 with ⟨e1, e2, -⟩ | ⟨e1, e2, e3, e4⟩
      · rw [e2] at k8
        exact absurd k8 (by intro c; exact k7 c)
      · obtain ⟨q1, q2⟩ := vp_in_lt k7 k8 e2 (by omega)
        simp only [wp_Jx4a65c_elementData_915e3_0, k2, e1, q1, (k6 _ q2).1, i_mmax, i_mmin, i_pushI, i_pushN, i_pushL, i_iload, i_aload, i_istore, i_astore, i_iinc, i_iadd, i_isub, i_imul, i_iand, i_ior, i_ixor, i_ishl, i_ishr, i_iushr, i_idiv, i_i2l, i_lcmp, i_dup, i_pop, i_dupx1, i_dup2, i_ifeq, i_ifne, i_iflt, i_ifge, i_ifgt, i_ifle, i_iceq, i_icne, i_iclt, i_icge, i_icgt, i_icle, i_ifnull, i_aceq, i_getI, i_getR, i_putI, i_putZ, i_putR, i_new, i_newarr, i_ald, i_lald, i_aald, i_alen, i_ast, i_zast, i_last, i_aast, i_aastL, i_cast, i_gste, i_ldcM, i_getC, i_acopy, i_dead, i_objinit, i_callV, i_callS, i_callI, i_iret, i_zret, i_aret, i_vret, i_throw, popN, pushO, lget, lset, isRf_ref, isRf_null, isRf_rf, isC1_int, isC1_ref, isC1_null, isC1_rf, true_and, and_true, List.length_cons, List.length_nil, Nat.reduceAdd, Nat.reduceLeDiff, hK_sI, hN_sI, hR_sI, hI_sI, hK_sR, hN_sR, hR_sR, hI_sR, kC_2, kC_3, kC_4, kC_5, kC_6, kC_7, kC_8, kC_9, kC_10, kC_11, kC_20, kC_21, kC_22, kC_23, i2_0, i1_1, i0_1, i1_0, bI_and, bI_0, Decidable.not_not, not_false_eq_true, not_true_eq_false, forall_const, false_implies, true_implies, hK_copy, hN_copy, hI_copy, hC_sI, hC_sR, hC_new, hK_new, hN_new, hI_new, hR_new, rf_some, rf_none, ex_ref, ex_null, ex_rf, nref_null, rf_null, Nat.reduceEqDiff, reduceCtorEq, false_and, and_false, if_false, if_true, ne_eq, kO_150, kO_151, kO_152, kO_170, kO_180, kO_190, Value.ref.injEq, exists_eq_left', false_or]
        exact hp
    · exact hT.elim
  · unfold T_Jx4a65c_elementData_915e3 at hT
    split at hT
    · exact ⟨Nat.le_of_ble_eq_true rfl, by simp [isC1_int, isC1_ref, isC1_null, isC1_rf]⟩
    · exact hT.elim
def wp_Jx4a65c_get_915e3_0 (kd : Nat) (P : Option Value → hp_T → Prop) (X : String → hp_T → Prop) : KT :=
  i_iload 1 (i_aload 0 (i_getI kd (64 * kd + 2) (i_callS 2 T_J15_checkIndex_7cf53 noX (i_pop (i_aload 0 (i_iload 1 (i_callV 1 1 T_Jx4a65c_elementData_915e3 noX (i_aret P))))))))
set_option maxRecDepth 20000 in
theorem go_Jx4a65c_get_915e3_0 {kd : Nat} (hkL : isL kd) {z : zT} {P : Option Value → hp_T → Prop} {X : String → hp_T → Prop} (hz : Cx z cJx4a65c_get_915e3 2 "java/util/ArrayList" "get" 2 0 0) (hr : Rt z (some (.object "java/lang/Object")) P X 0 0) : Go z 0 0 0 (wp_Jx4a65c_get_915e3_0 kd P X) := have hkd := isL_kO hkL; have hk0 := isL_0 hkL;
  s_iload_n hz rfl dJx4a65c_get_915e3_0 (s_aload_n hz rfl dJx4a65c_get_915e3_1 (s_getI (i := 2) hz hkd hk0 cls0 rfl rfl ⟨w78, Or.inl rfl⟩ dJx4a65c_get_915e3_2 (s_callS hz ct_J15_checkIndex_7cf53 ⟨w120, w122, w44, by decide, by decide, by decide +kernel⟩ w121 rfl rfl rfl rfl out_no dJx4a65c_get_915e3_5
    (s_pop hz dJx4a65c_get_915e3_8 (s_aload_n hz rfl dJx4a65c_get_915e3_9 (s_iload_n hz rfl dJx4a65c_get_915e3_10 (s_callV hz ct_Jx4a65c_elementData_915e3 ⟨w126, w129, w32, by decide, by decide, by decide +kernel⟩ w127 w128 cls0 rfl rfl rfl rfl rfl rfl out_no dJx4a65c_get_915e3_11
    (s_aret hz hr (Or.inl ⟨_, rfl⟩) rfl rfl dJx4a65c_get_915e3_14))))))))

def T_Jx4a65c_get_915e3 : PT := fun av h P X => match av with
  | [.ref a, .int i] => (lOK h a ∧ ¬ i < 0 ∧ i < nI (lsz h a)) ∧ (P (some (.ref (lel h a i.toNatClampNeg))) h)
  | _ => False
set_option maxRecDepth 20000 in
theorem ct_Jx4a65c_get_915e3 : CT yJx4a65c_get_915e3 cJx4a65c_get_915e3 2 (some (.object "java/lang/Object")) 2 0 0 T_Jx4a65c_get_915e3 := by
  refine ct_ofE (by decide) (fun z av h P X hT hz hr => ?_) (fun av h P X hT => ?_)
  · unfold T_Jx4a65c_get_915e3 at hT
    split at hT
    · refine ⟨_, go_Jx4a65c_get_915e3_0 (hT.1.1.1) hz hr, ?_⟩
      rename_i a i
      show wp_Jx4a65c_get_915e3_0 (hK h a) P X [some (.ref a), some (.int i)] [] h
      obtain ⟨hk, hp⟩ := hT
      have k3 := hk.1.2.2.1
      simp only [wp_Jx4a65c_get_915e3_0, T_J15_checkIndex_7cf53, T_Jx4a65c_elementData_915e3, k3, hk, isL_kC hk.1.1, i_mmax, i_mmin, i_pushI, i_pushN, i_pushL, i_iload, i_aload, i_istore, i_astore, i_iinc, i_iadd, i_isub, i_imul, i_iand, i_ior, i_ixor, i_ishl, i_ishr, i_iushr, i_idiv, i_i2l, i_lcmp, i_dup, i_pop, i_dupx1, i_dup2, i_ifeq, i_ifne, i_iflt, i_ifge, i_ifgt, i_ifle, i_iceq, i_icne, i_iclt, i_icge, i_icgt, i_icle, i_ifnull, i_aceq, i_getI, i_getR, i_putI, i_putZ, i_putR, i_new, i_newarr, i_ald, i_lald, i_aald, i_alen, i_ast, i_zast, i_last, i_aast, i_aastL, i_cast, i_gste, i_ldcM, i_getC, i_acopy, i_dead, i_objinit, i_callV, i_callS, i_callI, i_iret, i_zret, i_aret, i_vret, i_throw, popN, pushO, lget, lset, isRf_ref, isRf_null, isRf_rf, isC1_int, isC1_ref, isC1_null, isC1_rf, true_and, and_true, List.length_cons, List.length_nil, Nat.reduceAdd, Nat.reduceLeDiff, hK_sI, hN_sI, hR_sI, hI_sI, hK_sR, hN_sR, hR_sR, hI_sR, kC_2, kC_3, kC_4, kC_5, kC_6, kC_7, kC_8, kC_9, kC_10, kC_11, kC_20, kC_21, kC_22, kC_23, i2_0, i1_1, i0_1, i1_0, bI_and, bI_0, Decidable.not_not, not_false_eq_true, not_true_eq_false, forall_const, false_implies, true_implies, hK_copy, hN_copy, hI_copy, hC_sI, hC_sR, hC_new, hK_new, hN_new, hI_new, hR_new, rf_some, rf_none, ex_ref, ex_null, ex_rf, nref_null, rf_null, Nat.reduceEqDiff, reduceCtorEq, false_and, and_false, if_false, if_true, ne_eq, kO_150, kO_151, kO_152, kO_170, kO_180, kO_190, Value.ref.injEq, exists_eq_left', false_or]
      exact hp
    · exact hT.elim
  · unfold T_Jx4a65c_get_915e3 at hT
    split at hT
    · exact ⟨Nat.le_of_ble_eq_true rfl, by simp [isC1_int, isC1_ref, isC1_null, isC1_rf]⟩
    · exact hT.elim
