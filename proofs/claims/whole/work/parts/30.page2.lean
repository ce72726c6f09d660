def inS (s : Int32) (i : Nat) : Prop := (s >>> (nI i &&& 31)) &&& 1 = 1
theorem nI_lt8 {x : Int32} {n : Nat} (h0 : ¬ x < 0) (h1 : x < nI n) (hn : n < 1000) : x.toNatClampNeg < n ∧ x = nI x.toNatClampNeg := by
  obtain ⟨j, hj, rfl⟩ := nI_of h0
  rw [nI_clamp hj]
  exact ⟨(nI_ltI hj (by omega)).mp h1, rfl⟩
def wp_X3_hasOneAheadOf_15 (P : Option Value → hp_T → Prop) (X : String → hp_T → Prop) : KT :=
  i_pushI 0 (i_zret P)
set_option maxRecDepth 20000 in
theorem go_X3_hasOneAheadOf_15 {z : zT} {P : Option Value → hp_T → Prop} {X : String → hp_T → Prop} (hz : Cx z cX3_hasOneAheadOf 6 "Panelry$Page" "hasOneAheadOf" 3 0 0) (hr : Rt z (some .boolean) P X 0 0) : Go z 0 0 15 (wp_X3_hasOneAheadOf_15 P X) := 
  s_iconst hz rfl dX3_hasOneAheadOf_15 (s_zret hz hr rfl rfl dX3_hasOneAheadOf_16)
def wp_X3_hasOneAheadOf_0 (P : Option Value → hp_T → Prop) (X : String → hp_T → Prop) (K36 : KT) : KT :=
  i_iload 1 (i_iflt (wp_X3_hasOneAheadOf_15 P X) (i_iload 1 (i_aload 0 (i_getR 5 320 (i_callV 0 1 T_Jx4a65c_size_8abf5 noX (i_iclt (i_aload 0 (i_getR 5 320 (i_iload 1 (i_callV 1 1 T_Jx4a65c_get_915e3 noX
    (i_cast 6 (i_getR 6 384 (i_astore 4 (i_pushI 0 (i_istore 5 K36))))))))) (wp_X3_hasOneAheadOf_15 P X)))))))
set_option maxRecDepth 20000 in
theorem go_X3_hasOneAheadOf_0 {z : zT} {P : Option Value → hp_T → Prop} {X : String → hp_T → Prop} {K36 : KT} (hz : Cx z cX3_hasOneAheadOf 6 "Panelry$Page" "hasOneAheadOf" 3 0 0) (hr : Rt z (some .boolean) P X 0 0) (h36 : Go z 0 0 36 K36) : Go z 0 0 0 (wp_X3_hasOneAheadOf_0 P X K36) := 
  s_iload_n hz rfl dX3_hasOneAheadOf_0 (s_iflt hz (tgt := 15) rfl dX3_hasOneAheadOf_1 (go_X3_hasOneAheadOf_15 hz hr) (s_iload_n hz rfl dX3_hasOneAheadOf_4 (s_aload_n hz rfl dX3_hasOneAheadOf_5
    (fg_RX3_12 hz dX3_hasOneAheadOf_6 (s_callV hz ct_Jx4a65c_size_8abf5 ⟨w167, w115, w32, by decide, by decide, by decide +kernel⟩ w113 w114 cls0 rfl rfl rfl rfl rfl rfl out_no dX3_hasOneAheadOf_9
    (s_iclt hz (tgt := 17) rfl dX3_hasOneAheadOf_12 (s_aload_n hz rfl dX3_hasOneAheadOf_17 (fg_RX3_12 hz dX3_hasOneAheadOf_18 (s_iload_n hz rfl dX3_hasOneAheadOf_21 (s_callV hz ct_Jx4a65c_get_915e3 ⟨w215, w119, w32, by decide, by decide, by decide +kernel⟩ w117 w118 cls0 rfl rfl rfl rfl rfl rfl out_no dX3_hasOneAheadOf_22
    (s_cast hz kO_6 rfl cls5 w216 dX3_hasOneAheadOf_25 (fg_RX3_35 hz dX3_hasOneAheadOf_28 (s_astore hz rfl dX3_hasOneAheadOf_31 (s_iconst hz rfl dX3_hasOneAheadOf_33 (s_istore hz rfl dX3_hasOneAheadOf_34 h36)))))))))
    (go_X3_hasOneAheadOf_15 hz hr)))))))
def wp_X3_hasOneAheadOf_83 (P : Option Value → hp_T → Prop) (X : String → hp_T → Prop) (K36 : KT) : KT :=
  i_iinc 5 1 K36
set_option maxRecDepth 20000 in
theorem go_X3_hasOneAheadOf_83 {z : zT} {P : Option Value → hp_T → Prop} {X : String → hp_T → Prop} {K36 : KT} (hz : Cx z cX3_hasOneAheadOf 6 "Panelry$Page" "hasOneAheadOf" 3 0 0) (hr : Rt z (some .boolean) P X 0 0) (h36 : Go z 0 0 36 K36) : Go z 0 0 83 (wp_X3_hasOneAheadOf_83 P X K36) := 
  s_iinc hz rfl rfl dX3_hasOneAheadOf_83 (s_goto hz (tgt := 36) rfl dX3_hasOneAheadOf_86 h36)
def wp_X3_hasOneAheadOf_36 (P : Option Value → hp_T → Prop) (X : String → hp_T → Prop) (K36 : KT) : KT :=
  i_iload 5 (i_aload 0 (i_getR 5 320 (i_callV 0 1 T_Jx4a65c_size_8abf5 noX (i_icge (i_pushI 0 (i_zret P)) (i_iload 2 (i_iload 5 (i_callS 2 T_X8_isIn noX (i_ifeq (wp_X3_hasOneAheadOf_83 P X K36)
    (i_aload 0 (i_getR 5 320 (i_iload 5 (i_callV 1 1 T_Jx4a65c_get_915e3 noX (i_cast 6 (i_getR 6 384 (i_aload 4 (i_iload 3 (i_callV 2 3 T_X1_hasToComeAheadOf noX (i_ifeq (wp_X3_hasOneAheadOf_83 P X K36)
    (i_pushI 1 (i_zret P))))))))))))))))))))
set_option maxRecDepth 20000 in
theorem go_X3_hasOneAheadOf_36 {z : zT} {P : Option Value → hp_T → Prop} {X : String → hp_T → Prop} {K36 : KT} (hz : Cx z cX3_hasOneAheadOf 6 "Panelry$Page" "hasOneAheadOf" 3 0 0) (hr : Rt z (some .boolean) P X 0 0) (h36 : Go z 0 0 36 K36) : Go z 0 0 36 (wp_X3_hasOneAheadOf_36 P X K36) := 
  s_iload hz dX3_hasOneAheadOf_36 (s_aload_n hz rfl dX3_hasOneAheadOf_38 (fg_RX3_12 hz dX3_hasOneAheadOf_39 (s_callV hz ct_Jx4a65c_size_8abf5 ⟨w167, w115, w32, by decide, by decide, by decide +kernel⟩ w113 w114 cls0 rfl rfl rfl rfl rfl rfl out_no dX3_hasOneAheadOf_42
    (s_icge hz (tgt := 89) rfl dX3_hasOneAheadOf_45 (s_iconst hz rfl dX3_hasOneAheadOf_89 (s_zret hz hr rfl rfl dX3_hasOneAheadOf_90)) (s_iload_n hz rfl dX3_hasOneAheadOf_48 (s_iload hz dX3_hasOneAheadOf_49
    (s_callSN (host := "Panelry") hz ct_X8_isIn (Or.inl rfl) ⟨w185, w29, by decide, by decide, by decide +kernel⟩ w184 rfl rfl rfl rfl out_no dX3_hasOneAheadOf_51 (s_ifeq hz (tgt := 83) rfl dX3_hasOneAheadOf_54
    (go_X3_hasOneAheadOf_83 hz hr h36) (s_aload_n hz rfl dX3_hasOneAheadOf_57 (fg_RX3_12 hz dX3_hasOneAheadOf_58 (s_iload hz dX3_hasOneAheadOf_61 (s_callV hz ct_Jx4a65c_get_915e3 ⟨w215, w119, w32, by decide, by decide, by decide +kernel⟩ w117 w118 cls0 rfl rfl rfl rfl rfl rfl out_no dX3_hasOneAheadOf_63
    (s_cast hz kO_6 rfl cls5 w216 dX3_hasOneAheadOf_66 (fg_RX3_35 hz dX3_hasOneAheadOf_69 (s_aload hz dX3_hasOneAheadOf_72 (s_iload_n hz rfl dX3_hasOneAheadOf_74 (s_callV hz ct_X1_hasToComeAheadOf ⟨w560, w563, w47, by decide, by decide, by decide +kernel⟩ w561 w562 cls2 rfl rfl rfl rfl rfl rfl out_no dX3_hasOneAheadOf_75
    (s_ifeq hz (tgt := 83) rfl dX3_hasOneAheadOf_78 (go_X3_hasOneAheadOf_83 hz hr h36) (s_iconst hz rfl dX3_hasOneAheadOf_81 (s_zret hz hr rfl rfl dX3_hasOneAheadOf_82))))))))))))))))))))

def T_X3_hasOneAheadOf : PT := fun av h P X => match av with
  | [.ref a, .int x, .int s, .int l] => (pgOK h a) ∧ (P (some (.int (bI (¬ x < 0 ∧ x < nI (pnN h a) ∧ ∃ i, i < pnN h a ∧ inS s i ∧ bAh h (pb h a i) (pb h a x.toNatClampNeg) l)))) h)
  | _ => False
set_option maxRecDepth 20000 in
theorem ct_X3_hasOneAheadOf : CT yX3_hasOneAheadOf cX3_hasOneAheadOf 6 (some .boolean) 3 0 0 T_X3_hasOneAheadOf := by
  refine ct_ofE (by decide) (fun z av h P X hT hz hr => ?_) (fun av h P X hT => ?_)
  · unfold T_X3_hasOneAheadOf at hT
    split at hT
    · rename_i a x s l
      obtain ⟨hk, hp⟩ := hT
      obtain ⟨k1, ⟨k2, k3, k4, k5, k6⟩, ⟨k7, k8, k9, k10, k11⟩, k12, k13⟩ := hk
      have eN : lsz h (dR h 320 a) = pnN h a := rfl
      have eB : lsz h (dR h 321 a) = blN h a := rfl
      have eP : ∀ j, lel h (dR h 320 a) j = pn h a j := fun _ => rfl
      have eL : ∀ j, lel h (dR h 321 a) j = bl h a j := fun _ => rfl
      have eQ : ∀ j, dR h 384 (pn h a j) = pb h a j := fun _ => rfl
      have eR : ∀ j, dR h 131 (bl h a j) = bb h a j := fun _ => rfl
      have hloop := Go.loop (z := z) (cells := 0) (slots := 0) (pc := 36) (fun n ls st h' => ∃ i, i + n = pnN h a ∧ ls = [some (.ref a), some (.int x), some (.int s), some (.int l), some (.ref (pb h a x.toNatClampNeg)), some (.int (nI i))] ∧ st = [] ∧ h' = h ∧ (¬ x < 0 ∧ x < nI (pnN h a)) ∧ ∀ j, j < i → ¬ (inS s j ∧ bAh h (pb h a j) (pb h a x.toNatClampNeg) l)) (fun k => wp_X3_hasOneAheadOf_36 P X k) (fun k hgo => go_X3_hasOneAheadOf_36 hz hr hgo) (by
        rintro n ls st h' ⟨i, hi, rfl, rfl, rfl, hx, hno⟩
        have hcl : (nI i).toNatClampNeg = i := nI_clamp (by omega)
        have hge : (nI (pnN h' a) ≤ nI i) ↔ ¬ i < pnN h' a := by rw [leI (by omega) (by omega)]; omega
        have hS : ((s >>> (nI i &&& 31)) &&& 1 = 1) = inS s i := rfl
        obtain ⟨hx1, hx2⟩ := nI_lt8 hx.1 hx.2 (by omega)
        obtain ⟨r1, r2, r3⟩ := k6 _ hx1
        have r4 := r2.2
        rw [eQ] at r4
        simp only [wp_X3_hasOneAheadOf_15, wp_X3_hasOneAheadOf_0, wp_X3_hasOneAheadOf_83, wp_X3_hasOneAheadOf_36, T_Jx4a65c_size_8abf5, T_Jx4a65c_get_915e3, T_X8_isIn, T_X1_hasToComeAheadOf, i_mmax, i_mmin, i_pushI, i_pushN, i_pushL, i_iload, i_aload, i_istore, i_astore, i_iinc, i_iadd, i_isub, i_imul, i_iand, i_ior, i_ixor, i_ishl, i_ishr, i_iushr, i_idiv, i_i2l, i_lcmp, i_dup, i_pop, i_dupx1, i_dup2, i_ifeq, i_ifne, i_iflt, i_ifge, i_ifgt, i_ifle, i_iceq, i_icne, i_iclt, i_icge, i_icgt, i_icle, i_ifnull, i_aceq, i_getI, i_getR, i_putI, i_putZ, i_putR, i_new, i_newarr, i_ald, i_lald, i_aald, i_alen, i_ast, i_zast, i_last, i_aast, i_aastL, i_cast, i_gste, i_ldcM, i_getC, i_acopy, i_dead, i_objinit, i_callV, i_callS, i_callI, i_iret, i_zret, i_aret, i_vret, i_throw, popN, pushO, lget, lset, isRf_ref, isRf_null, isRf_rf, isC1_int, isC1_ref, isC1_null, isC1_rf, true_and, and_true, List.length_cons, List.length_nil, Nat.reduceAdd, Nat.reduceLeDiff, hK_sI, hN_sI, hR_sI, hI_sI, hK_sR, hN_sR, hR_sR, hI_sR, kC_2, kC_3, kC_4, kC_5, kC_6, kC_7, kC_8, kC_9, kC_10, kC_11, kC_20, kC_21, kC_22, kC_23, i2_0, i1_1, i0_1, i1_0, bI_and, bI_0, Decidable.not_not, not_false_eq_true, not_true_eq_false, forall_const, false_implies, true_implies, hK_copy, hN_copy, hI_copy, hC_sI, hC_sR, hC_new, hK_new, hN_new, hI_new, hR_new, rf_some, rf_none, ex_ref, ex_null, ex_rf, nref_null, rf_null, Nat.reduceEqDiff, reduceCtorEq, false_and, and_false, if_false, if_true, ne_eq, kO_150, kO_151, kO_152, kO_170, kO_180, kO_190, Value.ref.injEq, exists_eq_left', false_or, k1, k2, k3, k4, k7, k8, k9, eN, eB, eP, eL, eQ, eR, hge, hcl, ltI (show i < 1000 by omega) (show pnN h' a < 1000 by omega), hS]
        refine ⟨fun e => ?_, fun e => ⟨fun e2 => ?_, fun e2 => ?_⟩⟩
        · rw [bI_f (fun ⟨_, _, j, hj, z⟩ => hno j (by omega) z)] at hp
          exact hp
        · refine ⟨n - 1, by omega, i + 1, by omega, by rw [nI_1], hx, fun j hj z => ?_⟩
          by_cases e4 : j = i
          · subst e4; exact e2 z.1
          · exact hno j (by omega) z
        · obtain ⟨q1, q2, q3⟩ := k6 i e
          have q0 := q1.1
          have q4 := q2.1
          have q5 := q2.2
          rw [eQ] at q4 q5
          simp only [wp_X3_hasOneAheadOf_15, wp_X3_hasOneAheadOf_0, wp_X3_hasOneAheadOf_83, wp_X3_hasOneAheadOf_36, T_Jx4a65c_size_8abf5, T_Jx4a65c_get_915e3, T_X8_isIn, T_X1_hasToComeAheadOf, i_mmax, i_mmin, i_pushI, i_pushN, i_pushL, i_iload, i_aload, i_istore, i_astore, i_iinc, i_iadd, i_isub, i_imul, i_iand, i_ior, i_ixor, i_ishl, i_ishr, i_iushr, i_idiv, i_i2l, i_lcmp, i_dup, i_pop, i_dupx1, i_dup2, i_ifeq, i_ifne, i_iflt, i_ifge, i_ifgt, i_ifle, i_iceq, i_icne, i_iclt, i_icge, i_icgt, i_icle, i_ifnull, i_aceq, i_getI, i_getR, i_putI, i_putZ, i_putR, i_new, i_newarr, i_ald, i_lald, i_aald, i_alen, i_ast, i_zast, i_last, i_aast, i_aastL, i_cast, i_gste, i_ldcM, i_getC, i_acopy, i_dead, i_objinit, i_callV, i_callS, i_callI, i_iret, i_zret, i_aret, i_vret, i_throw, popN, pushO, lget, lset, isRf_ref, isRf_null, isRf_rf, isC1_int, isC1_ref, isC1_null, isC1_rf, true_and, and_true, List.length_cons, List.length_nil, Nat.reduceAdd, Nat.reduceLeDiff, hK_sI, hN_sI, hR_sI, hI_sI, hK_sR, hN_sR, hR_sR, hI_sR, kC_2, kC_3, kC_4, kC_5, kC_6, kC_7, kC_8, kC_9, kC_10, kC_11, kC_20, kC_21, kC_22, kC_23, i2_0, i1_1, i0_1, i1_0, bI_and, bI_0, Decidable.not_not, not_false_eq_true, not_true_eq_false, forall_const, false_implies, true_implies, hK_copy, hN_copy, hI_copy, hC_sI, hC_sR, hC_new, hK_new, hN_new, hI_new, hR_new, rf_some, rf_none, ex_ref, ex_null, ex_rf, nref_null, rf_null, Nat.reduceEqDiff, reduceCtorEq, false_and, and_false, if_false, if_true, ne_eq, kO_150, kO_151, kO_152, kO_170, kO_180, kO_190, Value.ref.injEq, exists_eq_left', false_or, q0, q4, q5, e, r4]
          refine ⟨nI_pos (by omega), fun e3 => ?_, fun e3 => ?_⟩
          · refine ⟨n - 1, by omega, i + 1, by omega, by rw [nI_1], hx, fun j hj z => ?_⟩
            by_cases e4 : j = i
            · subst e4; exact e3 z.2
            · exact hno j (by omega) z
          · rw [bI_t ⟨hx.1, hx.2, i, e, Classical.not_not.mp e2, e3⟩] at hp
            exact hp)
      refine ⟨_, go_X3_hasOneAheadOf_0 hz hr hloop, ?_⟩
      show wp_X3_hasOneAheadOf_0 P X _ [some (.ref a), some (.int x), some (.int s), some (.int l), none, none] [] h
      simp only [wp_X3_hasOneAheadOf_15, wp_X3_hasOneAheadOf_0, wp_X3_hasOneAheadOf_83, wp_X3_hasOneAheadOf_36, T_Jx4a65c_size_8abf5, T_Jx4a65c_get_915e3, T_X8_isIn, T_X1_hasToComeAheadOf, i_mmax, i_mmin, i_pushI, i_pushN, i_pushL, i_iload, i_aload, i_istore, i_astore, i_iinc, i_iadd, i_isub, i_imul, i_iand, i_ior, i_ixor, i_ishl, i_ishr, i_iushr, i_idiv, i_i2l, i_lcmp, i_dup, i_pop, i_dupx1, i_dup2, i_ifeq, i_ifne, i_iflt, i_ifge, i_ifgt, i_ifle, i_iceq, i_icne, i_iclt, i_icge, i_icgt, i_icle, i_ifnull, i_aceq, i_getI, i_getR, i_putI, i_putZ, i_putR, i_new, i_newarr, i_ald, i_lald, i_aald, i_alen, i_ast, i_zast, i_last, i_aast, i_aastL, i_cast, i_gste, i_ldcM, i_getC, i_acopy, i_dead, i_objinit, i_callV, i_callS, i_callI, i_iret, i_zret, i_aret, i_vret, i_throw, popN, pushO, lget, lset, isRf_ref, isRf_null, isRf_rf, isC1_int, isC1_ref, isC1_null, isC1_rf, true_and, and_true, List.length_cons, List.length_nil, Nat.reduceAdd, Nat.reduceLeDiff, hK_sI, hN_sI, hR_sI, hI_sI, hK_sR, hN_sR, hR_sR, hI_sR, kC_2, kC_3, kC_4, kC_5, kC_6, kC_7, kC_8, kC_9, kC_10, kC_11, kC_20, kC_21, kC_22, kC_23, i2_0, i1_1, i0_1, i1_0, bI_and, bI_0, Decidable.not_not, not_false_eq_true, not_true_eq_false, forall_const, false_implies, true_implies, hK_copy, hN_copy, hI_copy, hC_sI, hC_sR, hC_new, hK_new, hN_new, hI_new, hR_new, rf_some, rf_none, ex_ref, ex_null, ex_rf, nref_null, rf_null, Nat.reduceEqDiff, reduceCtorEq, false_and, and_false, if_false, if_true, ne_eq, kO_150, kO_151, kO_152, kO_170, kO_180, kO_190, Value.ref.injEq, exists_eq_left', false_or, k1, k2, k3, k4, k7, k8, k9, eN, eB, eP, eL, eQ, eR]
      refine ⟨fun e => ?_, fun e => ⟨fun e2 => ?_, fun e2 => ?_⟩⟩
      · rw [bI_f (fun z => z.1 e)] at hp; exact hp
      · obtain ⟨hx1, hx2⟩ := nI_lt8 e e2 (by omega)
        obtain ⟨r1, r2, r3⟩ := k6 _ hx1
        have r0 := r1.1
        have r4 := r2.1
        rw [eQ] at r4
        simp only [wp_X3_hasOneAheadOf_15, wp_X3_hasOneAheadOf_0, wp_X3_hasOneAheadOf_83, wp_X3_hasOneAheadOf_36, T_Jx4a65c_size_8abf5, T_Jx4a65c_get_915e3, T_X8_isIn, T_X1_hasToComeAheadOf, i_mmax, i_mmin, i_pushI, i_pushN, i_pushL, i_iload, i_aload, i_istore, i_astore, i_iinc, i_iadd, i_isub, i_imul, i_iand, i_ior, i_ixor, i_ishl, i_ishr, i_iushr, i_idiv, i_i2l, i_lcmp, i_dup, i_pop, i_dupx1, i_dup2, i_ifeq, i_ifne, i_iflt, i_ifge, i_ifgt, i_ifle, i_iceq, i_icne, i_iclt, i_icge, i_icgt, i_icle, i_ifnull, i_aceq, i_getI, i_getR, i_putI, i_putZ, i_putR, i_new, i_newarr, i_ald, i_lald, i_aald, i_alen, i_ast, i_zast, i_last, i_aast, i_aastL, i_cast, i_gste, i_ldcM, i_getC, i_acopy, i_dead, i_objinit, i_callV, i_callS, i_callI, i_iret, i_zret, i_aret, i_vret, i_throw, popN, pushO, lget, lset, isRf_ref, isRf_null, isRf_rf, isC1_int, isC1_ref, isC1_null, isC1_rf, true_and, and_true, List.length_cons, List.length_nil, Nat.reduceAdd, Nat.reduceLeDiff, hK_sI, hN_sI, hR_sI, hI_sI, hK_sR, hN_sR, hR_sR, hI_sR, kC_2, kC_3, kC_4, kC_5, kC_6, kC_7, kC_8, kC_9, kC_10, kC_11, kC_20, kC_21, kC_22, kC_23, i2_0, i1_1, i0_1, i1_0, bI_and, bI_0, Decidable.not_not, not_false_eq_true, not_true_eq_false, forall_const, false_implies, true_implies, hK_copy, hN_copy, hI_copy, hC_sI, hC_sR, hC_new, hK_new, hN_new, hI_new, hR_new, rf_some, rf_none, ex_ref, ex_null, ex_rf, nref_null, rf_null, Nat.reduceEqDiff, reduceCtorEq, false_and, and_false, if_false, if_true, ne_eq, kO_150, kO_151, kO_152, kO_170, kO_180, kO_190, Value.ref.injEq, exists_eq_left', false_or, r0, r4, e, e2]
        exact ⟨pnN h a, 0, by omega, rfl, fun j hj => absurd hj (Nat.not_lt_zero j)⟩
      · rw [bI_f (fun z => e2 z.2.1)] at hp; exact hp
    · exact hT.elim
  · unfold T_X3_hasOneAheadOf at hT
    split at hT
    · exact ⟨Nat.le_of_ble_eq_true rfl, by simp [isC1_int, isC1_ref, isC1_null, isC1_rf]⟩
    · exact hT.elim
/-- the balloon at a place, if it is another one of the same panel -/
noncomputable def nbr (h : hp_T) (a : Nat) (x y : Int32) (w : Nat) : Option Nat := @ite _ (¬ x = y ∧ ¬ x < 0 ∧ x < nI (blN h a) ∧ hI h 128 (bl h a x.toNatClampNeg) 0 = hI h 128 w 0) (Classical.propDecidable _) (some (bl h a x.toNatClampNeg)) none
theorem nbr_t {h : hp_T} {a : Nat} {x y : Int32} {w : Nat} (c : ¬ x = y ∧ ¬ x < 0 ∧ x < nI (blN h a) ∧ hI h 128 (bl h a x.toNatClampNeg) 0 = hI h 128 w 0) : nbr h a x y w = some (bl h a x.toNatClampNeg) := if_pos c
theorem nbr_f {h : hp_T} {a : Nat} {x y : Int32} {w : Nat} (c : ¬ (¬ x = y ∧ ¬ x < 0 ∧ x < nI (blN h a) ∧ hI h 128 (bl h a x.toNatClampNeg) 0 = hI h 128 w 0)) : nbr h a x y w = none := if_neg c
def wp_X3_neighbourAt_20 (P : Option Value → hp_T → Prop) (X : String → hp_T → Prop) : KT :=
  i_pushN (i_aret P)
set_option maxRecDepth 20000 in
theorem go_X3_neighbourAt_20 {z : zT} {P : Option Value → hp_T → Prop} {X : String → hp_T → Prop} (hz : Cx z cX3_neighbourAt 5 "Panelry$Page" "neighbourAt" 3 0 0) (hr : Rt z (some (.object "Panelry$Balloon")) P X 0 0) : Go z 0 0 20 (wp_X3_neighbourAt_20 P X) := 
  s_null hz dX3_neighbourAt_20 (s_aret hz hr (Or.inl ⟨_, rfl⟩) rfl rfl dX3_neighbourAt_21)
def wp_X3_neighbourAt_53 (P : Option Value → hp_T → Prop) (X : String → hp_T → Prop) : KT :=
  i_aret P
set_option maxRecDepth 20000 in
theorem go_X3_neighbourAt_53 {z : zT} {P : Option Value → hp_T → Prop} {X : String → hp_T → Prop} (hz : Cx z cX3_neighbourAt 5 "Panelry$Page" "neighbourAt" 3 0 0) (hr : Rt z (some (.object "Panelry$Balloon")) P X 0 0) : Go z 0 0 53 (wp_X3_neighbourAt_53 P X) := 
  s_aret hz hr (Or.inl ⟨_, rfl⟩) rfl rfl dX3_neighbourAt_53
def wp_X3_neighbourAt_0 (P : Option Value → hp_T → Prop) (X : String → hp_T → Prop) : KT :=
  i_iload 1 (i_iload 2 (i_iceq (wp_X3_neighbourAt_20 P X) (i_iload 1 (i_iflt (wp_X3_neighbourAt_20 P X) (i_iload 1 (i_aload 0 (i_getR 5 321 (i_callV 0 1 T_Jx4a65c_size_8abf5 noX (i_iclt
    (i_aload 0 (i_getR 5 321 (i_iload 1 (i_callV 1 1 T_Jx4a65c_get_915e3 noX (i_cast 2 (i_astore 4 (i_aload 4 (i_getI 2 128 (i_aload 3 (i_getI 2 128 (i_icne (i_pushN (wp_X3_neighbourAt_53 P X))
    (i_aload 4 (wp_X3_neighbourAt_53 P X))))))))))))) (wp_X3_neighbourAt_20 P X))))))))))
set_option maxRecDepth 20000 in
theorem go_X3_neighbourAt_0 {z : zT} {P : Option Value → hp_T → Prop} {X : String → hp_T → Prop} (hz : Cx z cX3_neighbourAt 5 "Panelry$Page" "neighbourAt" 3 0 0) (hr : Rt z (some (.object "Panelry$Balloon")) P X 0 0) : Go z 0 0 0 (wp_X3_neighbourAt_0 P X) := 
  s_iload_n hz rfl dX3_neighbourAt_0 (s_iload_n hz rfl dX3_neighbourAt_1 (s_iceq hz (tgt := 20) rfl dX3_neighbourAt_2 (go_X3_neighbourAt_20 hz hr) (s_iload_n hz rfl dX3_neighbourAt_5 (s_iflt hz
    (tgt := 20) rfl dX3_neighbourAt_6 (go_X3_neighbourAt_20 hz hr) (s_iload_n hz rfl dX3_neighbourAt_9 (s_aload_n hz rfl dX3_neighbourAt_10 (fg_RX3_18 hz dX3_neighbourAt_11 (s_callV hz ct_Jx4a65c_size_8abf5 ⟨w167, w115, w32, by decide, by decide, by decide +kernel⟩ w113 w114 cls0 rfl rfl rfl rfl rfl rfl out_no dX3_neighbourAt_14
    (s_iclt hz (tgt := 22) rfl dX3_neighbourAt_17 (s_aload_n hz rfl dX3_neighbourAt_22 (fg_RX3_18 hz dX3_neighbourAt_23 (s_iload_n hz rfl dX3_neighbourAt_26 (s_callV hz ct_Jx4a65c_get_915e3 ⟨w215, w119, w32, by decide, by decide, by decide +kernel⟩ w117 w118 cls0 rfl rfl rfl rfl rfl rfl out_no dX3_neighbourAt_27
    (s_cast hz kO_2 rfl cls1 w631 dX3_neighbourAt_30 (s_astore hz rfl dX3_neighbourAt_33 (s_aload hz dX3_neighbourAt_35 (fg_RX3_55 hz dX3_neighbourAt_37 (s_aload_n hz rfl dX3_neighbourAt_40
    (fg_RX3_55 hz dX3_neighbourAt_41 (s_icne hz (tgt := 52) rfl dX3_neighbourAt_44 (s_null hz dX3_neighbourAt_52 (go_X3_neighbourAt_53 hz hr)) (s_aload hz dX3_neighbourAt_47 (s_goto hz (tgt := 53) rfl dX3_neighbourAt_49
    (go_X3_neighbourAt_53 hz hr)))))))))))))) (go_X3_neighbourAt_20 hz hr))))))))))

def T_X3_neighbourAt : PT := fun av h P X => match av with
  | [.ref a, .int x, .int y, .ref w] => (pgOK h a ∧ hK h w = 2) ∧ (P (some (va_rf (nbr h a x y w))) h)
  | _ => False
set_option maxRecDepth 20000 in
theorem ct_X3_neighbourAt : CT yX3_neighbourAt cX3_neighbourAt 5 (some (.object "Panelry$Balloon")) 3 0 0 T_X3_neighbourAt := by
  refine ct_ofE (by decide) (fun z av h P X hT hz hr => ?_) (fun av h P X hT => ?_)
  · unfold T_X3_neighbourAt at hT
    split at hT
    · refine ⟨_, go_X3_neighbourAt_0 hz hr, ?_⟩
      rename_i a x y w
      show wp_X3_neighbourAt_0 P X [some (.ref a), some (.int x), some (.int y), some (.ref w), none] [] h
      obtain ⟨hk, hp⟩ := hT
      obtain ⟨k1, ⟨k2, k3, k4, k5, k6⟩, ⟨k7, k8, k9, k10, k11⟩, k12, k13⟩ := hk.1
      have eN : lsz h (dR h 320 a) = pnN h a := rfl
      have eB : lsz h (dR h 321 a) = blN h a := rfl
      have eP : ∀ j, lel h (dR h 320 a) j = pn h a j := fun _ => rfl
      have eL : ∀ j, lel h (dR h 321 a) j = bl h a j := fun _ => rfl
      have eQ : ∀ j, dR h 384 (pn h a j) = pb h a j := fun _ => rfl
      have eR : ∀ j, dR h 131 (bl h a j) = bb h a j := fun _ => rfl
      have kw := hk.2
      simp only [wp_X3_neighbourAt_20, wp_X3_neighbourAt_53, wp_X3_neighbourAt_0, T_Jx4a65c_size_8abf5, T_Jx4a65c_get_915e3, k1, k2, k3, k4, k7, k8, k9, eN, eB, eP, eL, eQ, eR, kw, i_mmax, i_mmin, i_pushI, i_pushN, i_pushL, i_iload, i_aload, i_istore, i_astore, i_iinc, i_iadd, i_isub, i_imul, i_iand, i_ior, i_ixor, i_ishl, i_ishr, i_iushr, i_idiv, i_i2l, i_lcmp, i_dup, i_pop, i_dupx1, i_dup2, i_ifeq, i_ifne, i_iflt, i_ifge, i_ifgt, i_ifle, i_iceq, i_icne, i_iclt, i_icge, i_icgt, i_icle, i_ifnull, i_aceq, i_getI, i_getR, i_putI, i_putZ, i_putR, i_new, i_newarr, i_ald, i_lald, i_aald, i_alen, i_ast, i_zast, i_last, i_aast, i_aastL, i_cast, i_gste, i_ldcM, i_getC, i_acopy, i_dead, i_objinit, i_callV, i_callS, i_callI, i_iret, i_zret, i_aret, i_vret, i_throw, popN, pushO, lget, lset, isRf_ref, isRf_null, isRf_rf, isC1_int, isC1_ref, isC1_null, isC1_rf, true_and, and_true, List.length_cons, List.length_nil, Nat.reduceAdd, Nat.reduceLeDiff, hK_sI, hN_sI, hR_sI, hI_sI, hK_sR, hN_sR, hR_sR, hI_sR, kC_2, kC_3, kC_4, kC_5, kC_6, kC_7, kC_8, kC_9, kC_10, kC_11, kC_20, kC_21, kC_22, kC_23, i2_0, i1_1, i0_1, i1_0, bI_and, bI_0, Decidable.not_not, not_false_eq_true, not_true_eq_false, forall_const, false_implies, true_implies, hK_copy, hN_copy, hI_copy, hC_sI, hC_sR, hC_new, hK_new, hN_new, hI_new, hR_new, rf_some, rf_none, ex_ref, ex_null, ex_rf, nref_null, rf_null, Nat.reduceEqDiff, reduceCtorEq, false_and, and_false, if_false, if_true, ne_eq, kO_150, kO_151, kO_152, kO_170, kO_180, kO_190, Value.ref.injEq, exists_eq_left', false_or]
      refine ⟨fun e => ?_, fun e => ⟨fun e2 => ?_, fun e2 => ⟨fun e3 => ?_, fun e3 => ?_⟩⟩⟩
      · rw [nbr_f (fun z => z.1 e)] at hp; exact hp
      · rw [nbr_f (fun z => z.2.1 e2)] at hp; exact hp
      · obtain ⟨hx1, hx2⟩ := nI_lt8 e2 e3 (by omega)
        obtain ⟨b1, b2, b3⟩ := k11 _ hx1
        simp only [b1, e2, e3, i_mmax, i_mmin, i_pushI, i_pushN, i_pushL, i_iload, i_aload, i_istore, i_astore, i_iinc, i_iadd, i_isub, i_imul, i_iand, i_ior, i_ixor, i_ishl, i_ishr, i_iushr, i_idiv, i_i2l, i_lcmp, i_dup, i_pop, i_dupx1, i_dup2, i_ifeq, i_ifne, i_iflt, i_ifge, i_ifgt, i_ifle, i_iceq, i_icne, i_iclt, i_icge, i_icgt, i_icle, i_ifnull, i_aceq, i_getI, i_getR, i_putI, i_putZ, i_putR, i_new, i_newarr, i_ald, i_lald, i_aald, i_alen, i_ast, i_zast, i_last, i_aast, i_aastL, i_cast, i_gste, i_ldcM, i_getC, i_acopy, i_dead, i_objinit, i_callV, i_callS, i_callI, i_iret, i_zret, i_aret, i_vret, i_throw, popN, pushO, lget, lset, isRf_ref, isRf_null, isRf_rf, isC1_int, isC1_ref, isC1_null, isC1_rf, true_and, and_true, List.length_cons, List.length_nil, Nat.reduceAdd, Nat.reduceLeDiff, hK_sI, hN_sI, hR_sI, hI_sI, hK_sR, hN_sR, hR_sR, hI_sR, kC_2, kC_3, kC_4, kC_5, kC_6, kC_7, kC_8, kC_9, kC_10, kC_11, kC_20, kC_21, kC_22, kC_23, i2_0, i1_1, i0_1, i1_0, bI_and, bI_0, Decidable.not_not, not_false_eq_true, not_true_eq_false, forall_const, false_implies, true_implies, hK_copy, hN_copy, hI_copy, hC_sI, hC_sR, hC_new, hK_new, hN_new, hI_new, hR_new, rf_some, rf_none, ex_ref, ex_null, ex_rf, nref_null, rf_null, Nat.reduceEqDiff, reduceCtorEq, false_and, and_false, if_false, if_true, ne_eq, kO_150, kO_151, kO_152, kO_170, kO_180, kO_190, Value.ref.injEq, exists_eq_left', false_or]
        refine ⟨fun e4 => ?_, fun e4 => ?_⟩
        · rw [nbr_f (fun z => e4 z.2.2.2)] at hp; exact hp
        · rw [nbr_t ⟨e, e2, e3, e4⟩] at hp; exact hp
      · rw [nbr_f (fun z => e3 z.2.2.1)] at hp; exact hp
    · exact hT.elim
  · unfold T_X3_neighbourAt at hT
    split at hT
    · exact ⟨Nat.le_of_ble_eq_true rfl, by simp [isC1_int, isC1_ref, isC1_null, isC1_rf]⟩
    · exact hT.elim
theorem nbr_some {h : hp_T} {a i : Nat} {y : Int32} {w c : Nat} (hb : blN h a < 1000) (hi : i < 1000) (e : nbr h a (nI i) y w = some c) : (¬ nI i = y ∧ i < blN h a ∧ hI h 128 (bl h a i) 0 = hI h 128 w 0) ∧ c = bl h a i := by
  unfold nbr at e
  rw [nI_clamp (by omega)] at e
  split at e
  · next z =>
    cases e
    exact ⟨⟨z.1, (ltI hi hb).mp z.2.2.1, z.2.2.2⟩, rfl⟩
  · cases e
theorem nbr_none {h : hp_T} {a i : Nat} {y : Int32} {w : Nat} (hb : blN h a < 1000) (hi : i < blN h a) (e : nbr h a (nI i) y w = none) : ¬ (¬ nI i = y ∧ hI h 128 (bl h a i) 0 = hI h 128 w 0) := by
  intro z
  rw [nbr_t ⟨z.1, nI_pos (by omega), nI_lt hi (by omega), by rw [nI_clamp (by omega)]; exact z.2⟩] at e
  cases e
