def wp_J8_newLength_cabcc_21 (P : Option Value → hp_T → Prop) (X : String → hp_T → Prop) : KT :=
  i_dead
set_option maxRecDepth 20000 in
theorem go_J8_newLength_cabcc_21 {z : zT} {P : Option Value → hp_T → Prop} {X : String → hp_T → Prop} (hz : Cx z cJ8_newLength_cabcc 4 "jdk/internal/util/ArraysSupport" "newLength" 1 0 0) (hr : Rt z (some .int) P X 0 0) : Go z 0 0 21 (wp_J8_newLength_cabcc_21 P X) := 
  Go.fls
def wp_J8_newLength_cabcc_0 (P : Option Value → hp_T → Prop) (X : String → hp_T → Prop) : KT :=
  i_iload 0 (i_iload 1 (i_iload 2 (i_mmax (i_iadd (i_istore 3 (i_pushI 0 (i_iload 3 (i_icge (wp_J8_newLength_cabcc_21 P X) (i_iload 3 (i_pushI 2147483639 (i_icgt (wp_J8_newLength_cabcc_21 P X)
    (i_iload 3 (i_iret P)))))))))))))
set_option maxRecDepth 20000 in
theorem go_J8_newLength_cabcc_0 {z : zT} {P : Option Value → hp_T → Prop} {X : String → hp_T → Prop} (hz : Cx z cJ8_newLength_cabcc 4 "jdk/internal/util/ArraysSupport" "newLength" 1 0 0) (hr : Rt z (some .int) P X 0 0) : Go z 0 0 0 (wp_J8_newLength_cabcc_0 P X) := 
  s_iload_n hz rfl dJ8_newLength_cabcc_0 (s_iload_n hz rfl dJ8_newLength_cabcc_1 (s_iload_n hz rfl dJ8_newLength_cabcc_2 (s_mmax hz w355 w356 w40 w357 rfl rfl rfl dJ8_newLength_cabcc_3
    (s_iadd hz dJ8_newLength_cabcc_6 (s_istore_n hz rfl rfl dJ8_newLength_cabcc_7 (s_iconst hz rfl dJ8_newLength_cabcc_8 (s_iload_n hz rfl dJ8_newLength_cabcc_9 (s_icge hz (tgt := 21) rfl dJ8_newLength_cabcc_10
    (go_J8_newLength_cabcc_21 hz hr) (s_iload_n hz rfl dJ8_newLength_cabcc_13 (s_ldc hz w358 dJ8_newLength_cabcc_14 (s_icgt hz (tgt := 21) rfl dJ8_newLength_cabcc_16 (go_J8_newLength_cabcc_21 hz hr)
    (s_iload_n hz rfl dJ8_newLength_cabcc_19 (s_iret hz hr rfl rfl dJ8_newLength_cabcc_20)))))))))))))

def T_J8_newLength_cabcc : PT := fun av h P X => match av with
  | [.int o, .int n, .int f] => (0 < o + maI n f ∧ o + maI n f ≤ 2147483639) ∧ (P (some (.int (o + maI n f))) h)
  | _ => False
set_option maxRecDepth 20000 in
theorem ct_J8_newLength_cabcc : CT yJ8_newLength_cabcc cJ8_newLength_cabcc 4 (some .int) 1 0 0 T_J8_newLength_cabcc := by
  refine ct_ofE (by decide) (fun z av h P X hT hz hr => ?_) (fun av h P X hT => ?_)
  · unfold T_J8_newLength_cabcc at hT
    split at hT
    · refine ⟨_, go_J8_newLength_cabcc_0 hz hr, ?_⟩
      rename_i o n f
      show wp_J8_newLength_cabcc_0 P X [some (.int o), some (.int n), some (.int f), none] [] h
      obtain ⟨hk, hp⟩ := hT
      simp only [wp_J8_newLength_cabcc_21, wp_J8_newLength_cabcc_0, i_mmax, i_mmin, i_pushI, i_pushN, i_pushL, i_iload, i_aload, i_istore, i_astore, i_iinc, i_iadd, i_isub, i_imul, i_iand, i_ior, i_ixor, i_ishl, i_ishr, i_iushr, i_idiv, i_i2l, i_lcmp, i_dup, i_pop, i_dupx1, i_dup2, i_ifeq, i_ifne, i_iflt, i_ifge, i_ifgt, i_ifle, i_iceq, i_icne, i_iclt, i_icge, i_icgt, i_icle, i_ifnull, i_aceq, i_getI, i_getR, i_putI, i_putZ, i_putR, i_new, i_newarr, i_ald, i_lald, i_aald, i_alen, i_ast, i_zast, i_last, i_aast, i_aastL, i_cast, i_gste, i_ldcM, i_getC, i_acopy, i_dead, i_objinit, i_callV, i_callS, i_callI, i_iret, i_zret, i_aret, i_vret, i_throw, popN, pushO, lget, lset, isRf_ref, isRf_null, isRf_rf, isC1_int, isC1_ref, isC1_null, isC1_rf, true_and, and_true, List.length_cons, List.length_nil, Nat.reduceAdd, Nat.reduceLeDiff, hK_sI, hN_sI, hR_sI, hI_sI, hK_sR, hN_sR, hR_sR, hI_sR, kC_2, kC_3, kC_4, kC_5, kC_6, kC_7, kC_8, kC_9, kC_10, kC_11, kC_20, kC_21, kC_22, kC_23, i2_0, i1_1, i0_1, i1_0, bI_and, bI_0, Decidable.not_not, not_false_eq_true, not_true_eq_false, forall_const, false_implies, true_implies, hK_copy, hN_copy, hI_copy, hC_sI, hC_sR, hC_new, hK_new, hN_new, hI_new, hR_new, rf_some, rf_none, ex_ref, ex_null, ex_rf, nref_null, rf_null, Nat.reduceEqDiff, reduceCtorEq, false_and, and_false, if_false, if_true, ne_eq, kO_150, kO_151, kO_152, kO_170, kO_180, kO_190, Value.ref.injEq, exists_eq_left', false_or, hk]
      (repeat' (first | (apply And.intro) | (intro _)))
      all_goals first | exact hp | (exfalso; clear hp; grind)
    · exact hT.elim
  · unfold T_J8_newLength_cabcc at hT
    split at hT
    · exact ⟨Nat.le_of_ble_eq_true rfl, by simp [isC1_int, isC1_ref, isC1_null, isC1_rf]⟩
    · exact hT.elim
theorem hcopy_id (h : hp_T) (kd b : Nat) (f : Nat → Option Nat) (e : ∀ i, f i = hR h kd b i) : hcopy h kd b f = h := by
  unfold hcopy
  have e1 : (fun g x i => if g = kd ∧ x = b then f i else h.2.2.2.1 g x i) = h.2.2.2.1 := by
    funext g x i
    split
    · next c => rw [c.1, c.2]; exact e i
    · rfl
  rw [e1]
theorem mi_le {a b : Nat} (ha : a < 1000) (hb : b < 1000) (h : a ≤ b) : miI (nI a) (nI b) = nI a := by
  unfold miI
  split
  · next c => exact absurd c (nI_nlt h (by omega))
  · rfl
theorem isL_140 {n : Nat} (h : isL (n - 140)) : n - 140 + 140 = n ∧ n ≠ 0 := by rcases h with e | e | e | e <;> omega
theorem isL_add {n : Nat} (h : isL n) : isL (n + 140 - 140) := by rw [Nat.add_sub_cancel]; exact h
def wp_J7_copyOf_6403c_0 (kd : Nat) (P : Option Value → hp_T → Prop) (X : String → hp_T → Prop) : KT :=
  i_aload 2 (i_ldcM (i_aceq (i_iload 1 (i_newarr (kd + 140) 100 (i_astore 3 (i_aload 0 (i_pushI 0 (i_aload 3 (i_pushI 0 (i_aload 0 (i_alen (i_iload 1 (i_mmin (i_acopy (kd + 140) (i_aload 3
    (i_aret P)))))))))))))) i_dead))
set_option maxRecDepth 20000 in
theorem go_J7_copyOf_6403c_0 {kd : Nat} (hkL : isL kd) {z : zT} {P : Option Value → hp_T → Prop} {X : String → hp_T → Prop} (hz : Cx z cJ7_copyOf_6403c 4 "java/util/Arrays" "copyOf" 2 1 100) (hr : Rt z (some (.array (.object "java/lang/Object"))) P X 1 100) : Go z 0 0 0 (wp_J7_copyOf_6403c_0 kd P X) := have hkd := isL_kO hkL; have hk0 := isL_0 hkL;
  s_aload_n hz rfl dJ7_copyOf_6403c_0 (s_ldcM hz w386 dJ7_copyOf_6403c_1 (s_acne hz (tgt := 13) rfl dJ7_copyOf_6403c_3 (s_iload_n hz rfl dJ7_copyOf_6403c_6 (s_anewarr hz (hkD kd hkL) (hkD9 kd hkL)
    (hkDA kd hkL) (Or.inl ⟨rfl, rfl⟩) w388 rfl rfl rfl dJ7_copyOf_6403c_7 (s_goto hz (tgt := 24) rfl dJ7_copyOf_6403c_10 (s_astore_n hz rfl rfl dJ7_copyOf_6403c_24 (s_aload_n hz rfl dJ7_copyOf_6403c_25
    (s_iconst hz rfl dJ7_copyOf_6403c_26 (s_aload_n hz rfl dJ7_copyOf_6403c_27 (s_iconst hz rfl dJ7_copyOf_6403c_28 (s_aload_n hz rfl dJ7_copyOf_6403c_29 (s_alen hz dJ7_copyOf_6403c_30 (s_iload_n hz rfl dJ7_copyOf_6403c_31
    (s_mmin hz w389 w205 w40 w206 rfl rfl rfl dJ7_copyOf_6403c_32 (s_acopy hz (hkD kd hkL) (hkD0 kd) (hkD9 kd hkL) (hkDA kd hkL) w390 w392 w391 w42 rfl castW dJ7_copyOf_6403c_35 (s_aload_n hz rfl dJ7_copyOf_6403c_38
    (s_aret hz hr (Or.inr ⟨_, rfl⟩) rfl rfl dJ7_copyOf_6403c_39))))))))))))))) Go.fls))

def T_J7_copyOf_6403c : PT := fun av h P X => match av with
  | [.ref a, .int n, .ref m] => ((isL (hK h a - 140) ∧ ¬ n < 0 ∧ n.toNatClampNeg ≤ 100 ∧ hN h a ≤ n.toNatClampNeg ∧ ∀ i, i < hN h a → ∀ y, hR h (hK h a) a i = some y → objK (hK h y)) ∧ m = hC h 1) ∧ (∀ q, hK h q = 0 → P (some (.ref q)) (hcopy (hnew h q (hK h a) n.toNatClampNeg) (hK h a) q (fun i => if i < hN h a then hR h (hK h a) a i else none)))
  | _ => False
set_option maxRecDepth 20000 in
theorem ct_J7_copyOf_6403c : CT yJ7_copyOf_6403c cJ7_copyOf_6403c 4 (some (.array (.object "java/lang/Object"))) 2 1 100 T_J7_copyOf_6403c := by
  refine ct_ofE (by decide) (fun z av h P X hT hz hr => ?_) (fun av h P X hT => ?_)
  · unfold T_J7_copyOf_6403c at hT
    split at hT
    · refine ⟨_, go_J7_copyOf_6403c_0 (hT.1.1.1) hz hr, ?_⟩
      rename_i a n m
      show wp_J7_copyOf_6403c_0 (hK h a - 140) P X [some (.ref a), some (.int n), some (.ref m), none] [] h
      obtain ⟨hk, hp⟩ := hT
      obtain ⟨⟨k1, k2, k3, k4, k5⟩, k6⟩ := hk
      obtain ⟨e140, kn⟩ := isL_140 k1
      have kk : kO (hK h a) = none := by rw [← e140]; exact hkD _ k1
      obtain ⟨j, hj, rfl⟩ := nI_of k2
      rw [nI_clamp hj] at k3 k4 hp
      have hmi : miI (Int32.ofNat (hN h a)) (nI j) = nI (hN h a) := mi_le (by omega) (by omega) k4
      simp only [wp_J7_copyOf_6403c_0, k6, i_mmax, i_mmin, i_pushI, i_pushN, i_pushL, i_iload, i_aload, i_istore, i_astore, i_iinc, i_iadd, i_isub, i_imul, i_iand, i_ior, i_ixor, i_ishl, i_ishr, i_iushr, i_idiv, i_i2l, i_lcmp, i_dup, i_pop, i_dupx1, i_dup2, i_ifeq, i_ifne, i_iflt, i_ifge, i_ifgt, i_ifle, i_iceq, i_icne, i_iclt, i_icge, i_icgt, i_icle, i_ifnull, i_aceq, i_getI, i_getR, i_putI, i_putZ, i_putR, i_new, i_newarr, i_ald, i_lald, i_aald, i_alen, i_ast, i_zast, i_last, i_aast, i_aastL, i_cast, i_gste, i_ldcM, i_getC, i_acopy, i_dead, i_objinit, i_callV, i_callS, i_callI, i_iret, i_zret, i_aret, i_vret, i_throw, popN, pushO, lget, lset, isRf_ref, isRf_null, isRf_rf, isC1_int, isC1_ref, isC1_null, isC1_rf, true_and, and_true, List.length_cons, List.length_nil, Nat.reduceAdd, Nat.reduceLeDiff, hK_sI, hN_sI, hR_sI, hI_sI, hK_sR, hN_sR, hR_sR, hI_sR, kC_2, kC_3, kC_4, kC_5, kC_6, kC_7, kC_8, kC_9, kC_10, kC_11, kC_20, kC_21, kC_22, kC_23, i2_0, i1_1, i0_1, i1_0, bI_and, bI_0, Decidable.not_not, not_false_eq_true, not_true_eq_false, forall_const, false_implies, true_implies, hK_copy, hN_copy, hI_copy, hC_sI, hC_sR, hC_new, hK_new, hN_new, hI_new, hR_new, rf_some, rf_none, ex_ref, ex_null, ex_rf, nref_null, rf_null, Nat.reduceEqDiff, reduceCtorEq, false_and, and_false, if_false, if_true, ne_eq, kO_150, kO_151, kO_152, kO_170, kO_180, kO_190, Value.ref.injEq, exists_eq_left', false_or]
      refine ⟨⟨k2, by rw [nI_clamp hj]; exact k3⟩, fun q hq => ?_⟩
      have hne : ¬ a = q := fun e => kn (by rw [e]; exact hq)
      simp only [hne, e140, kk, i_mmax, i_mmin, i_pushI, i_pushN, i_pushL, i_iload, i_aload, i_istore, i_astore, i_iinc, i_iadd, i_isub, i_imul, i_iand, i_ior, i_ixor, i_ishl, i_ishr, i_iushr, i_idiv, i_i2l, i_lcmp, i_dup, i_pop, i_dupx1, i_dup2, i_ifeq, i_ifne, i_iflt, i_ifge, i_ifgt, i_ifle, i_iceq, i_icne, i_iclt, i_icge, i_icgt, i_icle, i_ifnull, i_aceq, i_getI, i_getR, i_putI, i_putZ, i_putR, i_new, i_newarr, i_ald, i_lald, i_aald, i_alen, i_ast, i_zast, i_last, i_aast, i_aastL, i_cast, i_gste, i_ldcM, i_getC, i_acopy, i_dead, i_objinit, i_callV, i_callS, i_callI, i_iret, i_zret, i_aret, i_vret, i_throw, popN, pushO, lget, lset, isRf_ref, isRf_null, isRf_rf, isC1_int, isC1_ref, isC1_null, isC1_rf, true_and, and_true, List.length_cons, List.length_nil, Nat.reduceAdd, Nat.reduceLeDiff, hK_sI, hN_sI, hR_sI, hI_sI, hK_sR, hN_sR, hR_sR, hI_sR, kC_2, kC_3, kC_4, kC_5, kC_6, kC_7, kC_8, kC_9, kC_10, kC_11, kC_20, kC_21, kC_22, kC_23, i2_0, i1_1, i0_1, i1_0, bI_and, bI_0, Decidable.not_not, not_false_eq_true, not_true_eq_false, forall_const, false_implies, true_implies, hK_copy, hN_copy, hI_copy, hC_sI, hC_sR, hC_new, hK_new, hN_new, hI_new, hR_new, rf_some, rf_none, ex_ref, ex_null, ex_rf, nref_null, rf_null, Nat.reduceEqDiff, reduceCtorEq, false_and, and_false, if_false, if_true, ne_eq, kO_150, kO_151, kO_152, kO_170, kO_180, kO_190, Value.ref.injEq, exists_eq_left', false_or]
      rw [hmi, nI_clamp (by omega), nI_clamp hj]
      simp only [ne_eq, kn, not_false_eq_true, true_and]
      refine ⟨⟨nI_pos (by omega), Nat.le_refl _, k4, fun i hi y hy => ?_⟩, ?_⟩
      · by_cases e : y = q
        · exfalso
          have := k5 i hi y hy
          rw [e, hq] at this
          rcases this with c | c | c | c <;> exact absurd c (by decide)
        · rw [if_neg e]; exact k5 i hi y hy
      · exact hp q hq
    · exact hT.elim
  · unfold T_J7_copyOf_6403c at hT
    split at hT
    · exact ⟨Nat.le_of_ble_eq_true rfl, by simp [isC1_int, isC1_ref, isC1_null, isC1_rf]⟩
    · exact hT.elim
def wp_J7_copyOf_1904c_0 (kd : Nat) (P : Option Value → hp_T → Prop) (X : String → hp_T → Prop) : KT :=
  i_aload 0 (i_iload 1 (i_aload 0 (i_getC (i_callS 3 T_J7_copyOf_6403c noX (i_aret P)))))
set_option maxRecDepth 20000 in
theorem go_J7_copyOf_1904c_0 {kd : Nat} (hkL : isL kd) {z : zT} {P : Option Value → hp_T → Prop} {X : String → hp_T → Prop} (hz : Cx z cJ7_copyOf_1904c 2 "java/util/Arrays" "copyOf" 3 1 100) (hr : Rt z (some (.array (.object "java/lang/Object"))) P X 1 100) : Go z 0 0 0 (wp_J7_copyOf_1904c_0 kd P X) := have hkd := isL_kO hkL; have hk0 := isL_0 hkL;
  s_aload_n hz rfl dJ7_copyOf_1904c_0 (s_iload_n hz rfl dJ7_copyOf_1904c_1 (s_aload_n hz rfl dJ7_copyOf_1904c_2 (s_getC hz w365 w1235 w366 w382 rfl dJ7_copyOf_1904c_3 (s_callS hz ct_J7_copyOf_6403c ⟨w383, w385, w41, by decide, by decide, by decide +kernel⟩ w384 rfl rfl rfl rfl out_no dJ7_copyOf_1904c_6
    (s_aret hz hr (Or.inr ⟨_, rfl⟩) rfl rfl dJ7_copyOf_1904c_9)))))

def T_J7_copyOf_1904c : PT := fun av h P X => match av with
  | [.ref a, .int n] => (isL (hK h a - 140) ∧ ¬ n < 0 ∧ n.toNatClampNeg ≤ 100 ∧ hN h a ≤ n.toNatClampNeg ∧ ∀ i, i < hN h a → ∀ y, hR h (hK h a) a i = some y → objK (hK h y)) ∧ (∀ q, hK h q = 0 → P (some (.ref q)) (hcopy (hnew h q (hK h a) n.toNatClampNeg) (hK h a) q (fun i => if i < hN h a then hR h (hK h a) a i else none)))
  | _ => False
set_option maxRecDepth 20000 in
theorem ct_J7_copyOf_1904c : CT yJ7_copyOf_1904c cJ7_copyOf_1904c 2 (some (.array (.object "java/lang/Object"))) 3 1 100 T_J7_copyOf_1904c := by
  refine ct_ofE (by decide) (fun z av h P X hT hz hr => ?_) (fun av h P X hT => ?_)
  · unfold T_J7_copyOf_1904c at hT
    split at hT
    · refine ⟨_, go_J7_copyOf_1904c_0 (hT.1.1) hz hr, ?_⟩
      rename_i a n
      show wp_J7_copyOf_1904c_0 (hK h a - 140) P X [some (.ref a), some (.int n)] [] h
      obtain ⟨hk, hp⟩ := hT
      obtain ⟨e140, kn⟩ := isL_140 hk.1
      have kk : kO (hK h a) = none := by rw [← e140]; exact hkD _ hk.1
      have ka : kA (hK h a) = 3 := by rw [← e140]; exact hkDA _ hk.1
      simp only [wp_J7_copyOf_1904c_0, T_J7_copyOf_6403c, i_mmax, i_mmin, i_pushI, i_pushN, i_pushL, i_iload, i_aload, i_istore, i_astore, i_iinc, i_iadd, i_isub, i_imul, i_iand, i_ior, i_ixor, i_ishl, i_ishr, i_iushr, i_idiv, i_i2l, i_lcmp, i_dup, i_pop, i_dupx1, i_dup2, i_ifeq, i_ifne, i_iflt, i_ifge, i_ifgt, i_ifle, i_iceq, i_icne, i_iclt, i_icge, i_icgt, i_icle, i_ifnull, i_aceq, i_getI, i_getR, i_putI, i_putZ, i_putR, i_new, i_newarr, i_ald, i_lald, i_aald, i_alen, i_ast, i_zast, i_last, i_aast, i_aastL, i_cast, i_gste, i_ldcM, i_getC, i_acopy, i_dead, i_objinit, i_callV, i_callS, i_callI, i_iret, i_zret, i_aret, i_vret, i_throw, popN, pushO, lget, lset, isRf_ref, isRf_null, isRf_rf, isC1_int, isC1_ref, isC1_null, isC1_rf, true_and, and_true, List.length_cons, List.length_nil, Nat.reduceAdd, Nat.reduceLeDiff, hK_sI, hN_sI, hR_sI, hI_sI, hK_sR, hN_sR, hR_sR, hI_sR, kC_2, kC_3, kC_4, kC_5, kC_6, kC_7, kC_8, kC_9, kC_10, kC_11, kC_20, kC_21, kC_22, kC_23, i2_0, i1_1, i0_1, i1_0, bI_and, bI_0, Decidable.not_not, not_false_eq_true, not_true_eq_false, forall_const, false_implies, true_implies, hK_copy, hN_copy, hI_copy, hC_sI, hC_sR, hC_new, hK_new, hN_new, hI_new, hR_new, rf_some, rf_none, ex_ref, ex_null, ex_rf, nref_null, rf_null, Nat.reduceEqDiff, reduceCtorEq, false_and, and_false, if_false, if_true, ne_eq, kO_150, kO_151, kO_152, kO_170, kO_180, kO_190, Value.ref.injEq, exists_eq_left', false_or]
      exact ⟨⟨kk, ka, kn⟩, hk, hp⟩
    · exact hT.elim
  · unfold T_J7_copyOf_1904c at hT
    split at hT
    · exact ⟨Nat.le_of_ble_eq_true rfl, by simp [isC1_int, isC1_ref, isC1_null, isC1_rf]⟩
    · exact hT.elim
/-- what stands before a row grows -/
def gOK (h : hp_T) (a : Nat) (m : Int32) : Prop := isL (hK h a) ∧ hR h (64 * hK h a + 1) a 0 = some (lda h a) ∧ hN h (lda h a) ≤ 40 ∧ m = nI (hN h (lda h a) + 1) ∧
  ((lda h a = hC h 0 ∧ hK h (lda h a) = 190 ∧ hN h (lda h a) = 0) ∨ (hK h (lda h a) = hK h a + 140 ∧ 1 ≤ hN h (lda h a))) ∧ ∀ i, i < hN h (lda h a) → ∀ y, hR h (hK h a + 140) (lda h a) i = some y → objK (hK h y)
def grown (h : hp_T) (a q c : Nat) : hp_T := hsR (hcopy (hnew h q (hK h a + 140) c) (hK h a + 140) q (fun i => if i < hN h (lda h a) then hR h (hK h a + 140) (lda h a) i else none)) (64 * hK h a + 1) a 0 (some q)
theorem ma_nI (a b : Nat) (ha : a < 1000) (hb : b < 1000) : maI (nI a) (nI b) = nI (max a b) := by
  unfold maI
  split
  · next c => rw [show max a b = b from Nat.max_eq_right (Nat.le_of_lt ((nI_ltI (by omega) (by omega)).mp c))]
  · next c =>
    have : ¬ a < b := fun z => c (nI_lt z (by omega))
    rw [show max a b = a from Nat.max_eq_left (by omega)]
theorem sh1 (n : Nat) (h : n < 1000) : nI n >>> ((1 : Int32) &&& 31) = nI (n / 2) := pk_shrN (by omega) _ 1 (by decide)
def wp_Jx4a65c_grow_92f84_20 (kd : Nat) (P : Option Value → hp_T → Prop) (X : String → hp_T → Prop) : KT :=
  i_iload 2 (i_iload 1 (i_iload 2 (i_isub (i_iload 2 (i_pushI 1 (i_ishr (i_callS 3 T_J8_newLength_cabcc noX (i_istore 3 (i_aload 0 (i_aload 0 (i_getR kd (64 * kd + 1) (i_iload 3 (i_callS 2 T_J7_copyOf_1904c noX
    (i_dupx1 (i_putR kd (64 * kd + 1) (i_aret P))))))))))))))))
set_option maxRecDepth 20000 in
theorem go_Jx4a65c_grow_92f84_20 {kd : Nat} (hkL : isL kd) {z : zT} {P : Option Value → hp_T → Prop} {X : String → hp_T → Prop} (hz : Cx z cJx4a65c_grow_92f84 4 "java/util/ArrayList" "grow" 4 1 100) (hr : Rt z (some (.array (.object "java/lang/Object"))) P X 1 100) : Go z 0 0 20 (wp_Jx4a65c_grow_92f84_20 kd P X) := have hkd := isL_kO hkL; have hk0 := isL_0 hkL;
  s_iload_n hz rfl dJx4a65c_grow_92f84_20 (s_iload_n hz rfl dJx4a65c_grow_92f84_21 (s_iload_n hz rfl dJx4a65c_grow_92f84_22 (s_isub hz dJx4a65c_grow_92f84_23 (s_iload_n hz rfl dJx4a65c_grow_92f84_24
    (s_iconst hz rfl dJx4a65c_grow_92f84_25 (s_ishr hz dJx4a65c_grow_92f84_26 (s_callS hz ct_J8_newLength_cabcc ⟨w352, w354, w39, by decide, by decide, by decide +kernel⟩ w353 rfl rfl rfl rfl out_no dJx4a65c_grow_92f84_27
    (s_istore_n hz rfl rfl dJx4a65c_grow_92f84_30 (s_aload_n hz rfl dJx4a65c_grow_92f84_31 (s_aload_n hz rfl dJx4a65c_grow_92f84_32 (s_getR (i := 1) hz hkd hk0 cls0 rfl rfl ⟨w77, Or.inl rfl⟩ dJx4a65c_grow_92f84_33
    (s_iload_n hz rfl dJx4a65c_grow_92f84_36 (s_callS hz ct_J7_copyOf_1904c ⟨w362, w364, w41, by decide, by decide, by decide +kernel⟩ w363 rfl rfl rfl rfl out_no dJx4a65c_grow_92f84_37 (s_dupx1 hz dJx4a65c_grow_92f84_40
    (s_putR (i := 1) hz hkd hk0 cls0 rfl rfl ⟨w77, Or.inl rfl⟩ rfl (rf_arr _) (Or.inl rfl) dJx4a65c_grow_92f84_41 (s_aret hz hr (Or.inr ⟨_, rfl⟩) rfl rfl dJx4a65c_grow_92f84_44))))))))))))))))
def wp_Jx4a65c_grow_92f84_0 (kd : Nat) (P : Option Value → hp_T → Prop) (X : String → hp_T → Prop) : KT :=
  i_aload 0 (i_getR kd (64 * kd + 1) (i_alen (i_istore 2 (i_iload 2 (i_ifgt (wp_Jx4a65c_grow_92f84_20 kd P X) (i_aload 0 (i_getR kd (64 * kd + 1) (i_gste (i_aceq (i_aload 0 (i_pushI 10
    (i_iload 1 (i_mmax (i_newarr (kd + 140) 10 (i_dupx1 (i_putR kd (64 * kd + 1) (i_aret P)))))))) (wp_Jx4a65c_grow_92f84_20 kd P X))))))))))
set_option maxRecDepth 20000 in
theorem go_Jx4a65c_grow_92f84_0 {kd : Nat} (hkL : isL kd) {z : zT} {P : Option Value → hp_T → Prop} {X : String → hp_T → Prop} (hz : Cx z cJx4a65c_grow_92f84 4 "java/util/ArrayList" "grow" 4 1 100) (hr : Rt z (some (.array (.object "java/lang/Object"))) P X 1 100) : Go z 0 0 0 (wp_Jx4a65c_grow_92f84_0 kd P X) := have hkd := isL_kO hkL; have hk0 := isL_0 hkL;
  s_aload_n hz rfl dJx4a65c_grow_92f84_0 (s_getR (i := 1) hz hkd hk0 cls0 rfl rfl ⟨w77, Or.inl rfl⟩ dJx4a65c_grow_92f84_1 (s_alen hz dJx4a65c_grow_92f84_4 (s_istore_n hz rfl rfl dJx4a65c_grow_92f84_5
    (s_iload_n hz rfl dJx4a65c_grow_92f84_6 (s_ifgt hz (tgt := 20) rfl dJx4a65c_grow_92f84_7 (go_Jx4a65c_grow_92f84_20 hkL hz hr) (s_aload_n hz rfl dJx4a65c_grow_92f84_10 (s_getR (i := 1) hz hkd hk0 cls0 rfl rfl ⟨w77, Or.inl rfl⟩ dJx4a65c_grow_92f84_11
    (s_gste hz w75 dJx4a65c_grow_92f84_14 (s_aceq hz (tgt := 45) rfl dJx4a65c_grow_92f84_17 (s_aload_n hz rfl dJx4a65c_grow_92f84_45 (s_bipush hz rfl dJx4a65c_grow_92f84_46 (s_iload_n hz rfl dJx4a65c_grow_92f84_48
    (s_mmax hz w393 w356 w40 w357 rfl rfl rfl dJx4a65c_grow_92f84_49 (s_anewarr hz (hkD kd hkL) (hkD9 kd hkL) (hkDA kd hkL) (Or.inl ⟨rfl, rfl⟩) w394 rfl rfl rfl dJx4a65c_grow_92f84_52 (s_dupx1 hz dJx4a65c_grow_92f84_55
    (s_putR (i := 1) hz hkd hk0 cls0 rfl rfl ⟨w77, Or.inl rfl⟩ rfl (rf_arr _) (Or.inl rfl) dJx4a65c_grow_92f84_56 (s_aret hz hr (Or.inr ⟨_, rfl⟩) rfl rfl dJx4a65c_grow_92f84_59)))))))) (go_Jx4a65c_grow_92f84_20 hkL hz hr))))))))))

def T_Jx4a65c_grow_92f84 : PT := fun av h P X => match av with
  | [.ref a, .int m] => (gOK h a m) ∧ (∀ q c, hK h q = 0 → hN h (lda h a) < c ∧ c ≤ 60 → P (some (.ref q)) (grown h a q c))
  | _ => False
set_option maxRecDepth 20000 in
theorem ct_Jx4a65c_grow_92f84 : CT yJx4a65c_grow_92f84 cJx4a65c_grow_92f84 4 (some (.array (.object "java/lang/Object"))) 4 1 100 T_Jx4a65c_grow_92f84 := by
  refine ct_ofE (by decide) (fun z av h P X hT hz hr => ?_) (fun av h P X hT => ?_)
  · unfold T_Jx4a65c_grow_92f84 at hT
    split at hT
    · refine ⟨_, go_Jx4a65c_grow_92f84_0 (hT.1.1) hz hr, ?_⟩
      rename_i a m
      show wp_Jx4a65c_grow_92f84_0 (hK h a) P X [some (.ref a), some (.int m), none, none] [] h
      obtain ⟨hk, hp⟩ := hT
      obtain ⟨k1, k2, k3, k4, k5, k6⟩ := hk
      subst k4
      have l0 := isL_0 k1
      have a0 : ∀ q, hK h q = 0 → ¬ a = q := fun q hq e => by rw [← e] at hq; rw [hq] at l0; cases l0
      rcases k5 with ⟨e1, e2, e3⟩ | ⟨e2, e3⟩
      · have e4 : hR h (64 * hK h a + 1) a 0 = some (hC h 0) := by rw [k2, e1]
        rw [e1] at e2
        have e5 : hN h (hC h 0) = 0 := by rw [← e1]; exact e3
        have m10 : maI 10 (nI (hN h (lda h a) + 1)) = 10 := by rw [e3]; decide
        simp only [wp_Jx4a65c_grow_92f84_0, wp_Jx4a65c_grow_92f84_20, e4, e2, e5, m10, i_mmax, i_mmin, i_pushI, i_pushN, i_pushL, i_iload, i_aload, i_istore, i_astore, i_iinc, i_iadd, i_isub, i_imul, i_iand, i_ior, i_ixor, i_ishl, i_ishr, i_iushr, i_idiv, i_i2l, i_lcmp, i_dup, i_pop, i_dupx1, i_dup2, i_ifeq, i_ifne, i_iflt, i_ifge, i_ifgt, i_ifle, i_iceq, i_icne, i_iclt, i_icge, i_icgt, i_icle, i_ifnull, i_aceq, i_getI, i_getR, i_putI, i_putZ, i_putR, i_new, i_newarr, i_ald, i_lald, i_aald, i_alen, i_ast, i_zast, i_last, i_aast, i_aastL, i_cast, i_gste, i_ldcM, i_getC, i_acopy, i_dead, i_objinit, i_callV, i_callS, i_callI, i_iret, i_zret, i_aret, i_vret, i_throw, popN, pushO, lget, lset, isRf_ref, isRf_null, isRf_rf, isC1_int, isC1_ref, isC1_null, isC1_rf, true_and, and_true, List.length_cons, List.length_nil, Nat.reduceAdd, Nat.reduceLeDiff, hK_sI, hN_sI, hR_sI, hI_sI, hK_sR, hN_sR, hR_sR, hI_sR, kC_2, kC_3, kC_4, kC_5, kC_6, kC_7, kC_8, kC_9, kC_10, kC_11, kC_20, kC_21, kC_22, kC_23, i2_0, i1_1, i0_1, i1_0, bI_and, bI_0, Decidable.not_not, not_false_eq_true, not_true_eq_false, forall_const, false_implies, true_implies, hK_copy, hN_copy, hI_copy, hC_sI, hC_sR, hC_new, hK_new, hN_new, hI_new, hR_new, rf_some, rf_none, ex_ref, ex_null, ex_rf, nref_null, rf_null, Nat.reduceEqDiff, reduceCtorEq, false_and, and_false, if_false, if_true, ne_eq, kO_150, kO_151, kO_152, kO_170, kO_180, kO_190, Value.ref.injEq, exists_eq_left', false_or]
        refine ⟨fun c => absurd c (by decide), fun _ => ⟨⟨by decide, by decide⟩, fun q hq => ?_⟩⟩
        simp only [a0 q hq, i_mmax, i_mmin, i_pushI, i_pushN, i_pushL, i_iload, i_aload, i_istore, i_astore, i_iinc, i_iadd, i_isub, i_imul, i_iand, i_ior, i_ixor, i_ishl, i_ishr, i_iushr, i_idiv, i_i2l, i_lcmp, i_dup, i_pop, i_dupx1, i_dup2, i_ifeq, i_ifne, i_iflt, i_ifge, i_ifgt, i_ifle, i_iceq, i_icne, i_iclt, i_icge, i_icgt, i_icle, i_ifnull, i_aceq, i_getI, i_getR, i_putI, i_putZ, i_putR, i_new, i_newarr, i_ald, i_lald, i_aald, i_alen, i_ast, i_zast, i_last, i_aast, i_aastL, i_cast, i_gste, i_ldcM, i_getC, i_acopy, i_dead, i_objinit, i_callV, i_callS, i_callI, i_iret, i_zret, i_aret, i_vret, i_throw, popN, pushO, lget, lset, isRf_ref, isRf_null, isRf_rf, isC1_int, isC1_ref, isC1_null, isC1_rf, true_and, and_true, List.length_cons, List.length_nil, Nat.reduceAdd, Nat.reduceLeDiff, hK_sI, hN_sI, hR_sI, hI_sI, hK_sR, hN_sR, hR_sR, hI_sR, kC_2, kC_3, kC_4, kC_5, kC_6, kC_7, kC_8, kC_9, kC_10, kC_11, kC_20, kC_21, kC_22, kC_23, i2_0, i1_1, i0_1, i1_0, bI_and, bI_0, Decidable.not_not, not_false_eq_true, not_true_eq_false, forall_const, false_implies, true_implies, hK_copy, hN_copy, hI_copy, hC_sI, hC_sR, hC_new, hK_new, hN_new, hI_new, hR_new, rf_some, rf_none, ex_ref, ex_null, ex_rf, nref_null, rf_null, Nat.reduceEqDiff, reduceCtorEq, false_and, and_false, if_false, if_true, ne_eq, kO_150, kO_151, kO_152, kO_170, kO_180, kO_190, Value.ref.injEq, exists_eq_left', false_or]
        have hg := hp q 10 hq ⟨by rw [e3]; decide, by decide⟩
        unfold grown at hg
        rw [hcopy_id _ _ _ _ (fun i => by rw [e3, if_neg (Nat.not_lt_zero i), hR_new, if_pos rfl])] at hg
        exact hg
      · have kk : kO (hK h (lda h a)) = none := by rw [e2]; exact hkD _ k1
        have kn : hK h (lda h a) ≠ 0 := by rw [e2]; omega
        have s1 : nI (hN h (lda h a) + 1) - Int32.ofNat (hN h (lda h a)) = nI 1 := by rw [show Int32.ofNat (hN h (lda h a)) = nI (hN h (lda h a)) from rfl, pk_sub (by omega)]; congr 1; omega
        have s2 : Int32.ofNat (hN h (lda h a)) >>> ((1 : Int32) &&& 31) = nI (hN h (lda h a) / 2) := sh1 _ (by omega)
        have s3 : Int32.ofNat (hN h (lda h a)) + maI (nI 1) (nI (hN h (lda h a) / 2)) = nI (hN h (lda h a) + max 1 (hN h (lda h a) / 2)) := by rw [ma_nI _ _ (by omega) (by omega), show Int32.ofNat (hN h (lda h a)) = nI (hN h (lda h a)) from rfl, nI_add]
        have hpos : (0 : Int32) < Int32.ofNat (hN h (lda h a)) := nI_lt (a := 0) (b := hN h (lda h a)) (by omega) (by omega)
        have hm : max 1 (hN h (lda h a) / 2) ≤ 20 := by omega
        have hm1 : 1 ≤ max 1 (hN h (lda h a) / 2) := by omega
        generalize max 1 (hN h (lda h a) / 2) = w at s3 hm hm1
        simp only [wp_Jx4a65c_grow_92f84_0, wp_Jx4a65c_grow_92f84_20, T_J8_newLength_cabcc, T_J7_copyOf_1904c, k2, kk, kn, s1, s2, s3, hpos, ne_eq, i_mmax, i_mmin, i_pushI, i_pushN, i_pushL, i_iload, i_aload, i_istore, i_astore, i_iinc, i_iadd, i_isub, i_imul, i_iand, i_ior, i_ixor, i_ishl, i_ishr, i_iushr, i_idiv, i_i2l, i_lcmp, i_dup, i_pop, i_dupx1, i_dup2, i_ifeq, i_ifne, i_iflt, i_ifge, i_ifgt, i_ifle, i_iceq, i_icne, i_iclt, i_icge, i_icgt, i_icle, i_ifnull, i_aceq, i_getI, i_getR, i_putI, i_putZ, i_putR, i_new, i_newarr, i_ald, i_lald, i_aald, i_alen, i_ast, i_zast, i_last, i_aast, i_aastL, i_cast, i_gste, i_ldcM, i_getC, i_acopy, i_dead, i_objinit, i_callV, i_callS, i_callI, i_iret, i_zret, i_aret, i_vret, i_throw, popN, pushO, lget, lset, isRf_ref, isRf_null, isRf_rf, isC1_int, isC1_ref, isC1_null, isC1_rf, true_and, and_true, List.length_cons, List.length_nil, Nat.reduceAdd, Nat.reduceLeDiff, hK_sI, hN_sI, hR_sI, hI_sI, hK_sR, hN_sR, hR_sR, hI_sR, kC_2, kC_3, kC_4, kC_5, kC_6, kC_7, kC_8, kC_9, kC_10, kC_11, kC_20, kC_21, kC_22, kC_23, i2_0, i1_1, i0_1, i1_0, bI_and, bI_0, Decidable.not_not, not_false_eq_true, not_true_eq_false, forall_const, false_implies, true_implies, hK_copy, hN_copy, hI_copy, hC_sI, hC_sR, hC_new, hK_new, hN_new, hI_new, hR_new, rf_some, rf_none, ex_ref, ex_null, ex_rf, nref_null, rf_null, Nat.reduceEqDiff, reduceCtorEq, false_and, and_false, if_false, if_true, ne_eq, kO_150, kO_151, kO_152, kO_170, kO_180, kO_190, Value.ref.injEq, exists_eq_left', false_or]
        rw [nI_clamp (by omega), e2]
        refine ⟨⟨nI_lt (a := 0) (by omega) (by omega), nI_le (b := 2147483639) (by omega) (by decide)⟩, ⟨isL_add k1, nI_pos (by omega), by omega, by omega, k6⟩, fun q hq => ?_⟩
        refine ⟨if_neg (a0 q hq), ?_⟩
        exact hp q (hN h (lda h a) + w) hq ⟨by omega, by omega⟩
    · exact hT.elim
  · unfold T_Jx4a65c_grow_92f84 at hT
    split at hT
    · exact ⟨Nat.le_of_ble_eq_true rfl, by simp [isC1_int, isC1_ref, isC1_null, isC1_rf]⟩
    · exact hT.elim
def wp_Jx4a65c_grow_d5877_0 (kd : Nat) (P : Option Value → hp_T → Prop) (X : String → hp_T → Prop) : KT :=
  i_aload 0 (i_aload 0 (i_getI kd (64 * kd + 2) (i_pushI 1 (i_iadd (i_callV 1 1 T_Jx4a65c_grow_92f84 noX (i_aret P))))))
set_option maxRecDepth 20000 in
theorem go_Jx4a65c_grow_d5877_0 {kd : Nat} (hkL : isL kd) {z : zT} {P : Option Value → hp_T → Prop} {X : String → hp_T → Prop} (hz : Cx z cJx4a65c_grow_d5877 1 "java/util/ArrayList" "grow" 5 1 100) (hr : Rt z (some (.array (.object "java/lang/Object"))) P X 1 100) : Go z 0 0 0 (wp_Jx4a65c_grow_d5877_0 kd P X) := have hkd := isL_kO hkL; have hk0 := isL_0 hkL;
  s_aload_n hz rfl dJx4a65c_grow_d5877_0 (s_aload_n hz rfl dJx4a65c_grow_d5877_1 (s_getI (i := 2) hz hkd hk0 cls0 rfl rfl ⟨w78, Or.inl rfl⟩ dJx4a65c_grow_d5877_2 (s_iconst hz rfl dJx4a65c_grow_d5877_5
    (s_iadd hz dJx4a65c_grow_d5877_6 (s_callV hz ct_Jx4a65c_grow_92f84 ⟨w348, w351, w32, by decide, by decide, by decide +kernel⟩ w350 w10 cls0 rfl rfl rfl rfl rfl rfl out_no dJx4a65c_grow_d5877_7
    (s_aret hz hr (Or.inr ⟨_, rfl⟩) rfl rfl dJx4a65c_grow_d5877_10))))))

def T_Jx4a65c_grow_d5877 : PT := fun av h P X => match av with
  | [.ref a] => (gOK h a (hI h (64 * hK h a + 2) a 0 + 1)) ∧ (∀ q c, hK h q = 0 → hN h (lda h a) < c ∧ c ≤ 60 → P (some (.ref q)) (grown h a q c))
  | _ => False
set_option maxRecDepth 20000 in
theorem ct_Jx4a65c_grow_d5877 : CT yJx4a65c_grow_d5877 cJx4a65c_grow_d5877 1 (some (.array (.object "java/lang/Object"))) 5 1 100 T_Jx4a65c_grow_d5877 := by
  refine ct_ofE (by decide) (fun z av h P X hT hz hr => ?_) (fun av h P X hT => ?_)
  · unfold T_Jx4a65c_grow_d5877 at hT
    split at hT
    · refine ⟨_, go_Jx4a65c_grow_d5877_0 (hT.1.1) hz hr, ?_⟩
      rename_i a
      show wp_Jx4a65c_grow_d5877_0 (hK h a) P X [some (.ref a)] [] h
      obtain ⟨hk, hp⟩ := hT
      simp only [wp_Jx4a65c_grow_d5877_0, T_Jx4a65c_grow_92f84, isL_kC hk.1, i_mmax, i_mmin, i_pushI, i_pushN, i_pushL, i_iload, i_aload, i_istore, i_astore, i_iinc, i_iadd, i_isub, i_imul, i_iand, i_ior, i_ixor, i_ishl, i_ishr, i_iushr, i_idiv, i_i2l, i_lcmp, i_dup, i_pop, i_dupx1, i_dup2, i_ifeq, i_ifne, i_iflt, i_ifge, i_ifgt, i_ifle, i_iceq, i_icne, i_iclt, i_icge, i_icgt, i_icle, i_ifnull, i_aceq, i_getI, i_getR, i_putI, i_putZ, i_putR, i_new, i_newarr, i_ald, i_lald, i_aald, i_alen, i_ast, i_zast, i_last, i_aast, i_aastL, i_cast, i_gste, i_ldcM, i_getC, i_acopy, i_dead, i_objinit, i_callV, i_callS, i_callI, i_iret, i_zret, i_aret, i_vret, i_throw, popN, pushO, lget, lset, isRf_ref, isRf_null, isRf_rf, isC1_int, isC1_ref, isC1_null, isC1_rf, true_and, and_true, List.length_cons, List.length_nil, Nat.reduceAdd, Nat.reduceLeDiff, hK_sI, hN_sI, hR_sI, hI_sI, hK_sR, hN_sR, hR_sR, hI_sR, kC_2, kC_3, kC_4, kC_5, kC_6, kC_7, kC_8, kC_9, kC_10, kC_11, kC_20, kC_21, kC_22, kC_23, i2_0, i1_1, i0_1, i1_0, bI_and, bI_0, Decidable.not_not, not_false_eq_true, not_true_eq_false, forall_const, false_implies, true_implies, hK_copy, hN_copy, hI_copy, hC_sI, hC_sR, hC_new, hK_new, hN_new, hI_new, hR_new, rf_some, rf_none, ex_ref, ex_null, ex_rf, nref_null, rf_null, Nat.reduceEqDiff, reduceCtorEq, false_and, and_false, if_false, if_true, ne_eq, kO_150, kO_151, kO_152, kO_170, kO_180, kO_190, Value.ref.injEq, exists_eq_left', false_or]
      exact ⟨hk, hp⟩
    · exact hT.elim
  · unfold T_Jx4a65c_grow_d5877 at hT
    split at hT
    · exact ⟨Nat.le_of_ble_eq_true rfl, by simp [isC1_int, isC1_ref, isC1_null, isC1_rf]⟩
    · exact hT.elim
