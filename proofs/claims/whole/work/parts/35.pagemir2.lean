/-- a new empty list -/
def hlist (h : hp_T) (q kd : Nat) : hp_T := hsR (hsI (hnew h q kd 0) (64 * kd) q 0 0) (64 * kd + 1) q 0 (some (hC h 0))
def hpage (h : hp_T) (a q1 q2 : Nat) (l : Int32) : hp_T := hsI (hsR (hlist (hsR (hlist h q1 22) 320 a 0 (some q1)) q2 23) 321 a 0 (some q2)) 322 a 0 l
theorem hlist_at {h : hp_T} {q kd : Nat} (kl : isL kd) (h0 : hK h (hC h 0) = 190 ∧ hN h (hC h 0) = 0) (hq : hK h q = 0) : Ext h (hlist h q kd) ∧ hK (hlist h q kd) q = kd ∧ lOK (hlist h q kd) q ∧ lsz (hlist h q kd) q = 0 ∧ lda (hlist h q kd) q = hC h 0 := by
  have ne : ¬ hC h 0 = q := fun e => by rw [e, hq] at h0; exact absurd h0.1 (by decide)
  have kq : hK (hlist h q kd) q = kd := by unfold hlist; simp only [hK_sI, hN_sI, hI_sI, hR_sI, hC_sI, hK_sR, hN_sR, hI_sR, hR_sR, hC_sR, hK_new, hN_new, hI_new, hR_new, hC_new, if_true]
  have d1 : hR (hlist h q kd) (64 * kd + 1) q 0 = some (hC h 0) := by unfold hlist; simp only [hK_sI, hN_sI, hI_sI, hR_sI, hC_sI, hK_sR, hN_sR, hI_sR, hR_sR, hC_sR, hK_new, hN_new, hI_new, hR_new, hC_new, and_self, if_true]
  have e2 : hI (hlist h q kd) (64 * kd + 2) q 0 = 0 := by unfold hlist; simp only [hK_sI, hN_sI, hI_sI, hR_sI, hC_sI, hK_sR, hN_sR, hI_sR, hR_sR, hC_sR, hK_new, hN_new, hI_new, hR_new, hC_new, Nat.add_eq_left, reduceCtorEq, Nat.reduceEqDiff, false_and, if_true, if_false]
  have ed : lda (hlist h q kd) q = hC h 0 := by unfold lda; rw [kq]; exact dR_of d1
  have es : lsz (hlist h q kd) q = 0 := by unfold lsz; rw [kq, e2]; rfl
  have kc : hK (hlist h q kd) (hC h 0) = 190 ∧ hN (hlist h q kd) (hC h 0) = 0 := by
    unfold hlist
    simp only [hK_sI, hN_sI, hI_sI, hR_sI, hC_sI, hK_sR, hN_sR, hI_sR, hR_sR, hC_sR, hK_new, hN_new, hI_new, hR_new, hC_new, ne, if_false]
    exact h0
  refine ⟨?_, kq, ⟨by rw [kq]; exact kl, by rw [kq, ed]; exact d1, by rw [kq, es]; exact e2, by omega, Or.inl ⟨ed, es, by rw [ed]; exact kc.1, by rw [ed]; exact kc.2⟩, fun i hi => by omega⟩, es, ed⟩
  unfold hlist
  exact ((Ext.rfl.new hq kd 0).sI hq _ _ _).sR hq _ _ _
def wp_X3_init_0 (P : Option Value → hp_T → Prop) (X : String → hp_T → Prop) : KT :=
  i_aload 0 (i_objinit (i_aload 0 (i_new 22 (i_dup (i_callI 0 T_Jx4a65c_init_da8c8 noX (i_putR 5 320 (i_aload 0 (i_new 23 (i_dup (i_callI 0 T_Jx4a65c_init_da8c8 noX (i_putR 5 321 (i_aload 0
    (i_iload 1 (i_putZ 5 322 (i_vret P)))))))))))))))
set_option maxRecDepth 20000 in
theorem go_X3_init_0 {z : zT} {P : Option Value → hp_T → Prop} {X : String → hp_T → Prop} (hz : Cx z cX3_init 2 "Panelry$Page" "<init>" 4 2 6) (hr : Rt z none P X 2 6) : Go z 0 0 0 (wp_X3_init_0 P X) := 
  s_aload_n hz rfl dX3_init_0 (s_objinit hz w309 w61 w62 rfl dX3_init_1 (s_aload_n hz rfl dX3_init_4 (s_new hz kO_22 cls0 w310 w64 w32 rfl rfl dX3_init_5 (s_dup hz dX3_init_8 (s_callI hz ct_Jx4a65c_init_da8c8 ⟨w311, w67, w32, by decide, by decide, by decide +kernel⟩ w66 rfl rfl rfl rfl rfl out_no dX3_init_9
    (fp_RX3_12 hz dX3_init_12 (s_aload_n hz rfl dX3_init_15 (s_new hz kO_23 cls0 w310 w64 w32 rfl rfl dX3_init_16 (s_dup hz dX3_init_19 (s_callI hz ct_Jx4a65c_init_da8c8 ⟨w311, w67, w32, by decide, by decide, by decide +kernel⟩ w66 rfl rfl rfl rfl rfl out_no dX3_init_20
    (fp_RX3_18 hz dX3_init_23 (s_aload_n hz rfl dX3_init_26 (s_iload_n hz rfl dX3_init_27 (fp_RX3_21 hz dX3_init_28 (s_vret hz hr rfl rfl dX3_init_31)))))))))))))))

def T_X3_init : PT := fun av h P X => match av with
  | [.ref a, .int l] => (hK h a = 5 ∧ (hK h (hC h 0) = 190 ∧ hN h (hC h 0) = 0) ∧ l &&& 1 = l) ∧ (∀ q1 q2, hK h q1 = 0 → hK h q2 = 0 → ¬ q2 = q1 → P none (hpage h a q1 q2 l))
  | _ => False
set_option maxRecDepth 20000 in
theorem ct_X3_init : CT yX3_init cX3_init 2 none 4 2 6 T_X3_init := by
  refine ct_ofE (by decide) (fun z av h P X hT hz hr => ?_) (fun av h P X hT => ?_)
  · unfold T_X3_init at hT
    split at hT
    · refine ⟨_, go_X3_init_0 hz hr, ?_⟩
      rename_i a l
      show wp_X3_init_0 P X [some (.ref a), some (.int l)] [] h
      obtain ⟨hk, hp⟩ := hT
      obtain ⟨k1, ⟨k2, k3⟩, k4⟩ := hk
      simp only [wp_X3_init_0, T_Jx4a65c_init_da8c8, k1, k2, k3, i_mmax, i_mmin, i_pushI, i_pushN, i_pushL, i_iload, i_aload, i_istore, i_astore, i_iinc, i_iadd, i_isub, i_imul, i_iand, i_ior, i_ixor, i_ishl, i_ishr, i_iushr, i_idiv, i_i2l, i_lcmp, i_dup, i_pop, i_dupx1, i_dup2, i_ifeq, i_ifne, i_iflt, i_ifge, i_ifgt, i_ifle, i_iceq, i_icne, i_iclt, i_icge, i_icgt, i_icle, i_ifnull, i_aceq, i_getI, i_getR, i_putI, i_putZ, i_putR, i_new, i_newarr, i_ald, i_lald, i_aald, i_alen, i_ast, i_zast, i_last, i_aast, i_aastL, i_cast, i_gste, i_ldcM, i_getC, i_acopy, i_dead, i_objinit, i_callV, i_callS, i_callI, i_iret, i_zret, i_aret, i_vret, i_throw, popN, pushO, lget, lset, isRf_ref, isRf_null, isRf_rf, isC1_int, isC1_ref, isC1_null, isC1_rf, true_and, and_true, List.length_cons, List.length_nil, Nat.reduceAdd, Nat.reduceLeDiff, hK_sI, hN_sI, hR_sI, hI_sI, hK_sR, hN_sR, hR_sR, hI_sR, kC_2, kC_3, kC_4, kC_5, kC_6, kC_7, kC_8, kC_9, kC_10, kC_11, kC_20, kC_21, kC_22, kC_23, i2_0, i1_1, i0_1, i1_0, bI_and, bI_0, Decidable.not_not, not_false_eq_true, not_true_eq_false, forall_const, false_implies, true_implies, hK_copy, hN_copy, hI_copy, hC_sI, hC_sR, hC_new, hK_new, hN_new, hI_new, hR_new, rf_some, rf_none, ex_ref, ex_null, ex_rf, nref_null, rf_null, Nat.reduceEqDiff, reduceCtorEq, false_and, and_false, if_false, if_true, ne_eq, kO_150, kO_151, kO_152, kO_170, kO_180, kO_190, Value.ref.injEq, exists_eq_left', false_or]
      intro q hq
      have aq : ¬ a = q := fun e => by rw [e, hq] at k1; cases k1
      have cq : ¬ hC h 0 = q := fun e => by rw [e, hq] at k2; cases k2
      have i22 : isL 22 := by simp [isL]
      have i23 : isL 23 := by simp [isL]
      simp only [aq, cq, k1, k2, k3, i22, i23, i_mmax, i_mmin, i_pushI, i_pushN, i_pushL, i_iload, i_aload, i_istore, i_astore, i_iinc, i_iadd, i_isub, i_imul, i_iand, i_ior, i_ixor, i_ishl, i_ishr, i_iushr, i_idiv, i_i2l, i_lcmp, i_dup, i_pop, i_dupx1, i_dup2, i_ifeq, i_ifne, i_iflt, i_ifge, i_ifgt, i_ifle, i_iceq, i_icne, i_iclt, i_icge, i_icgt, i_icle, i_ifnull, i_aceq, i_getI, i_getR, i_putI, i_putZ, i_putR, i_new, i_newarr, i_ald, i_lald, i_aald, i_alen, i_ast, i_zast, i_last, i_aast, i_aastL, i_cast, i_gste, i_ldcM, i_getC, i_acopy, i_dead, i_objinit, i_callV, i_callS, i_callI, i_iret, i_zret, i_aret, i_vret, i_throw, popN, pushO, lget, lset, isRf_ref, isRf_null, isRf_rf, isC1_int, isC1_ref, isC1_null, isC1_rf, true_and, and_true, List.length_cons, List.length_nil, Nat.reduceAdd, Nat.reduceLeDiff, hK_sI, hN_sI, hR_sI, hI_sI, hK_sR, hN_sR, hR_sR, hI_sR, kC_2, kC_3, kC_4, kC_5, kC_6, kC_7, kC_8, kC_9, kC_10, kC_11, kC_20, kC_21, kC_22, kC_23, i2_0, i1_1, i0_1, i1_0, bI_and, bI_0, Decidable.not_not, not_false_eq_true, not_true_eq_false, forall_const, false_implies, true_implies, hK_copy, hN_copy, hI_copy, hC_sI, hC_sR, hC_new, hK_new, hN_new, hI_new, hR_new, rf_some, rf_none, ex_ref, ex_null, ex_rf, nref_null, rf_null, Nat.reduceEqDiff, reduceCtorEq, false_and, and_false, if_false, if_true, ne_eq, kO_150, kO_151, kO_152, kO_170, kO_180, kO_190, Value.ref.injEq, exists_eq_left', false_or]
      intro q1 hq1
      by_cases e : q1 = q
      · simp [e] at hq1
      · simp only [e, if_false] at hq1
        have aq1 : ¬ a = q1 := fun e => by rw [e, hq1] at k1; cases k1
        have cq1 : ¬ hC h 0 = q1 := fun e => by rw [e, hq1] at k2; cases k2
        simp only [aq1, cq1, aq, cq, k1, k2, k3, k4, i_mmax, i_mmin, i_pushI, i_pushN, i_pushL, i_iload, i_aload, i_istore, i_astore, i_iinc, i_iadd, i_isub, i_imul, i_iand, i_ior, i_ixor, i_ishl, i_ishr, i_iushr, i_idiv, i_i2l, i_lcmp, i_dup, i_pop, i_dupx1, i_dup2, i_ifeq, i_ifne, i_iflt, i_ifge, i_ifgt, i_ifle, i_iceq, i_icne, i_iclt, i_icge, i_icgt, i_icle, i_ifnull, i_aceq, i_getI, i_getR, i_putI, i_putZ, i_putR, i_new, i_newarr, i_ald, i_lald, i_aald, i_alen, i_ast, i_zast, i_last, i_aast, i_aastL, i_cast, i_gste, i_ldcM, i_getC, i_acopy, i_dead, i_objinit, i_callV, i_callS, i_callI, i_iret, i_zret, i_aret, i_vret, i_throw, popN, pushO, lget, lset, isRf_ref, isRf_null, isRf_rf, isC1_int, isC1_ref, isC1_null, isC1_rf, true_and, and_true, List.length_cons, List.length_nil, Nat.reduceAdd, Nat.reduceLeDiff, hK_sI, hN_sI, hR_sI, hI_sI, hK_sR, hN_sR, hR_sR, hI_sR, kC_2, kC_3, kC_4, kC_5, kC_6, kC_7, kC_8, kC_9, kC_10, kC_11, kC_20, kC_21, kC_22, kC_23, i2_0, i1_1, i0_1, i1_0, bI_and, bI_0, Decidable.not_not, not_false_eq_true, not_true_eq_false, forall_const, false_implies, true_implies, hK_copy, hN_copy, hI_copy, hC_sI, hC_sR, hC_new, hK_new, hN_new, hI_new, hR_new, rf_some, rf_none, ex_ref, ex_null, ex_rf, nref_null, rf_null, Nat.reduceEqDiff, reduceCtorEq, false_and, and_false, if_false, if_true, ne_eq, kO_150, kO_151, kO_152, kO_170, kO_180, kO_190, Value.ref.injEq, exists_eq_left', false_or]
        exact hp q q1 hq hq1 e
    · exact hT.elim
  · unfold T_X3_init at hT
    split at hT
    · exact ⟨Nat.le_of_ble_eq_true rfl, by simp [isC1_int, isC1_ref, isC1_null, isC1_rf]⟩
    · exact hT.elim
def bkMir (h h' : hp_T) (c c' : Nat) : Prop := blOK h' c' ∧ hI h' 128 c' 0 = hI h 128 c 0 ∧ hI h' 129 c' 0 = hI h 129 c 0 ∧ hI h' 130 c' 0 = hI h 130 c 0 ∧ bx4 h' (dR h' 131 c') (60 - (hI h 192 (dR h 131 c) 0 + hI h 194 (dR h 131 c) 0)) (hI h 193 (dR h 131 c) 0) (hI h 194 (dR h 131 c) 0) (hI h 195 (dR h 131 c) 0)
theorem bkMir.exo {h h' h'' : hp_T} (a : Exo h' h'') {c c' : Nat} (k : bkMir h h' c c') : bkMir h h'' c c' := by
  obtain ⟨k1, k2, k3, k4, k5⟩ := k
  obtain ⟨f1, f2⟩ := k1.exo a
  obtain ⟨e1, e2, e3⟩ := a c' (by rw [k1.1]; rfl)
  exact ⟨f1, ((e3 _ _).1).trans k2, ((e3 _ _).1).trans k3, ((e3 _ _).1).trans k4, by rw [f2]; exact k5.exo a⟩
theorem bkMir.old {h0 h h' : hp_T} (a : Ext h0 h) {c c' : Nat} (kc : blOK h0 c) (k : bkMir h h' c c') : bkMir h0 h' c c' := by
  obtain ⟨k1, k2, k3, k4, k5⟩ := k
  obtain ⟨f1, f2⟩ := kc.ext a
  obtain ⟨e1, e2, e3⟩ := a.1 c (by rw [kc.1]; decide)
  obtain ⟨g1, g2, g3⟩ := a.1 (dR h0 131 c) (by rw [kc.2.2]; decide)
  refine ⟨k1, k2.trans (e3 _ _).1, k3.trans (e3 _ _).1, k4.trans (e3 _ _).1, ?_⟩
  rw [f2, (g3 _ _).1, (g3 _ _).1, (g3 _ _).1, (g3 _ _).1] at k5
  exact k5
theorem balloon_new {h : hp_T} {q1 q2 : Nat} {x y w hh n f l : Int32} (f1 : hK h q1 = 0) (f2 : hK h q2 = 0) (ne : ¬ q2 = q1) :
    Ext h (hballoon (hbox (hnew h q1 2 0) q2 x y w hh) q1 q2 n f l) ∧ blOK (hballoon (hbox (hnew h q1 2 0) q2 x y w hh) q1 q2 n f l) q1 ∧ hI (hballoon (hbox (hnew h q1 2 0) q2 x y w hh) q1 q2 n f l) 128 q1 0 = n ∧ hI (hballoon (hbox (hnew h q1 2 0) q2 x y w hh) q1 q2 n f l) 129 q1 0 = f ∧ hI (hballoon (hbox (hnew h q1 2 0) q2 x y w hh) q1 q2 n f l) 130 q1 0 = l ∧ bx4 (hballoon (hbox (hnew h q1 2 0) q2 x y w hh) q1 q2 n f l) (dR (hballoon (hbox (hnew h q1 2 0) q2 x y w hh) q1 q2 n f l) 131 q1) x y w hh := by
  have ne' : ¬ q1 = q2 := fun e => ne e.symm
  have hd : dR (hballoon (hbox (hnew h q1 2 0) q2 x y w hh) q1 q2 n f l) 131 q1 = q2 := by
    unfold dR hballoon hbox
    simp only [hK_sI, hN_sI, hI_sI, hR_sI, hC_sI, hK_sR, hN_sR, hI_sR, hR_sR, hC_sR, hK_new, hN_new, hI_new, hR_new, hC_new, Nat.reduceEqDiff, and_self, false_and, if_true, if_false]
    rfl
  have hq2 : hK (hnew h q1 2 0) q2 = 0 := by rw [hK_new, if_neg ne]; exact f2
  refine ⟨?_, ⟨?_, ?_, ?_⟩, ?_, ?_, ?_, ?_⟩
  · unfold hballoon
    exact (((((Ext.rfl.new f1 2 0).box hq2 _ _ _ _).sI f1 _ _ _).sR f1 _ _ _).sI f1 _ _ _).sI f1 _ _ _
  · unfold hballoon hbox; simp only [hK_sI, hN_sI, hI_sI, hR_sI, hC_sI, hK_sR, hN_sR, hI_sR, hR_sR, hC_sR, hK_new, hN_new, hI_new, hR_new, hC_new, ne', if_true, if_false]
  · rw [hd]; unfold hballoon hbox; simp only [hK_sI, hN_sI, hI_sI, hR_sI, hC_sI, hK_sR, hN_sR, hI_sR, hR_sR, hC_sR, hK_new, hN_new, hI_new, hR_new, hC_new, Nat.reduceEqDiff, and_self, false_and, if_true, if_false]
  · rw [hd]; unfold hballoon hbox; simp only [hK_sI, hN_sI, hI_sI, hR_sI, hC_sI, hK_sR, hN_sR, hI_sR, hR_sR, hC_sR, hK_new, hN_new, hI_new, hR_new, hC_new, if_true]
  · unfold hballoon hbox; simp only [hK_sI, hN_sI, hI_sI, hR_sI, hC_sI, hK_sR, hN_sR, hI_sR, hR_sR, hC_sR, hK_new, hN_new, hI_new, hR_new, hC_new, Nat.reduceEqDiff, and_self, false_and, if_true, if_false]
  · unfold hballoon hbox; simp only [hK_sI, hN_sI, hI_sI, hR_sI, hC_sI, hK_sR, hN_sR, hI_sR, hR_sR, hC_sR, hK_new, hN_new, hI_new, hR_new, hC_new, Nat.reduceEqDiff, and_self, false_and, if_true, if_false]
  · unfold hballoon hbox; simp only [hK_sI, hN_sI, hI_sI, hR_sI, hC_sI, hK_sR, hN_sR, hI_sR, hR_sR, hC_sR, hK_new, hN_new, hI_new, hR_new, hC_new, Nat.reduceEqDiff, and_self, false_and, if_true, if_false]
  · rw [hd]; unfold bx4 hballoon hbox; simp only [hK_sI, hN_sI, hI_sI, hR_sI, hC_sI, hK_sR, hN_sR, hI_sR, hR_sR, hC_sR, hK_new, hN_new, hI_new, hR_new, hC_new, Nat.reduceEqDiff, ne, and_self, false_and, and_false, if_true, if_false]
/-- a page that is as a, mirrored, with n panels and m balloons -/
def pgMir (h h' : hp_T) (a q n m : Nat) : Prop := (hK h q = 0 ∧ hK h' q = 5 ∧ hI h' 322 q 0 = bI (hI h 322 a 0 = 0) ∧ hI h' 323 q 0 = 0 ∧ hR h' 324 q 0 = none) ∧
  (hR h' 320 q 0 = some (dR h' 320 q) ∧ hK h' (dR h' 320 q) = 22 ∧ nlist h h' (dR h' 320 q) n ∧ ∀ j, j < n → pnMir h h' (pn h a j) (lel h' (dR h' 320 q) j) 12) ∧
  (hR h' 321 q 0 = some (dR h' 321 q) ∧ hK h' (dR h' 321 q) = 23 ∧ nlist h h' (dR h' 321 q) m ∧ ∀ j, j < m → bkMir h h' (bl h a j) (lel h' (dR h' 321 q) j))
theorem pgMir.ext {h h' h'' : hp_T} {a q n m : Nat} (k : pgMir h h' a q n m) (e : Ext h' h'') : pgMir h h'' a q n m := by
  obtain ⟨⟨a1, a2, a3, a4, a5⟩, ⟨b1, b2, b3, b4⟩, ⟨c1, c2, c3, c4⟩⟩ := k
  have s := e.o q (by rw [a2]; rfl)
  have d0 := s.dR 320
  have d1 := s.dR 321
  obtain ⟨s1, s2, s3⟩ := s
  obtain ⟨x1, x2⟩ := b3.ext e
  obtain ⟨y1, y2⟩ := c3.ext e
  refine ⟨⟨a1, s1.trans a2, ((s3 _ _).1).trans a3, ((s3 _ _).1).trans a4, ((s3 _ _).2).trans a5⟩, ⟨by rw [d0, (s3 _ _).2]; exact b1, by rw [d0]; exact e.K b2 (by decide), by rw [d0]; exact x1, fun j hj => by rw [d0, x2]; exact (b4 j hj).ext e⟩, ⟨by rw [d1, (s3 _ _).2]; exact c1, by rw [d1]; exact e.K c2 (by decide), by rw [d1]; exact y1, fun j hj => by rw [d1, y2]; exact (c4 j hj).exo e.o⟩⟩
theorem pgMir.addP {h h' h'' : hp_T} {a q n m v : Nat} (k : pgMir h h' a q n m) (e : Ext h h') (hn : n < 40) (kv : pnMir h h' (pn h a n) v 12) (z : LAdd h' h'' (dR h' 320 q) v) : pgMir h h'' a q (n + 1) m ∧ Ext h h'' := by
  obtain ⟨⟨a1, a2, a3, a4, a5⟩, ⟨b1, b2, b3, b4⟩, ⟨c1, c2, c3, c4⟩⟩ := k
  have ko : objK (hK h' v) := by rw [kv.1.1.1]; simp [objK]
  obtain ⟨x1, x2⟩ := b3.add e hn ko z
  have il : isL (hK h' (dR h' 320 q)) := by rw [b2]; simp [isL]
  obtain ⟨y1, y2⟩ := c3.other (by rw [b2, c2]; decide) il z
  have eo := z.exo il
  have s := eo q (by rw [a2]; rfl)
  have d0 := s.dR 320
  have d1 := s.dR 321
  obtain ⟨s1, s2, s3⟩ := s
  obtain ⟨-, -, w1, w2, w3⟩ := z.ok b3.2.1 (by have := b3.2.2.1; omega) ko
  have es := b3.2.2.1
  refine ⟨⟨⟨a1, s1.trans a2, ((s3 _ _).1).trans a3, ((s3 _ _).1).trans a4, ((s3 _ _).2).trans a5⟩, ⟨by rw [d0, (s3 _ _).2]; exact b1, by rw [d0]; exact w3.trans b2, by rw [d0]; exact x1, fun j hj => ?_⟩, ⟨by rw [d1, (s3 _ _).2]; exact c1, by rw [d1, (z.1 _ c3.2.1.live.1).1]; exact c2, by rw [d1]; exact y1, fun j hj => by rw [d1, y2]; exact (c4 j hj).exo eo⟩⟩, x2⟩
  rw [d0]
  by_cases c : j < n
  · rw [w1 j (by omega)]; exact (b4 j c).exo eo
  · have : j = n := by omega
    subst this
    rw [es] at w2
    rw [w2]; exact kv.exo eo
theorem pgMir.addB {h h' h'' : hp_T} {a q n m v : Nat} (k : pgMir h h' a q n m) (e : Ext h h') (hn : m < 40) (kv : bkMir h h' (bl h a m) v) (z : LAdd h' h'' (dR h' 321 q) v) : pgMir h h'' a q n (m + 1) ∧ Ext h h'' := by
  obtain ⟨⟨a1, a2, a3, a4, a5⟩, ⟨b1, b2, b3, b4⟩, ⟨c1, c2, c3, c4⟩⟩ := k
  have ko : objK (hK h' v) := by rw [kv.1.1]; simp [objK]
  obtain ⟨x1, x2⟩ := c3.add e hn ko z
  have il : isL (hK h' (dR h' 321 q)) := by rw [c2]; simp [isL]
  obtain ⟨y1, y2⟩ := b3.other (by rw [b2, c2]; decide) il z
  have eo := z.exo il
  have s := eo q (by rw [a2]; rfl)
  have d0 := s.dR 320
  have d1 := s.dR 321
  obtain ⟨s1, s2, s3⟩ := s
  obtain ⟨-, -, w1, w2, w3⟩ := z.ok c3.2.1 (by have := c3.2.2.1; omega) ko
  have es := c3.2.2.1
  refine ⟨⟨⟨a1, s1.trans a2, ((s3 _ _).1).trans a3, ((s3 _ _).1).trans a4, ((s3 _ _).2).trans a5⟩, ⟨by rw [d0, (s3 _ _).2]; exact b1, by rw [d0, (z.1 _ b3.2.1.live.1).1]; exact b2, by rw [d0]; exact y1, fun j hj => by rw [d0, y2]; exact (b4 j hj).exo eo⟩, ⟨by rw [d1, (s3 _ _).2]; exact c1, by rw [d1]; exact w3.trans c2, by rw [d1]; exact x1, fun j hj => ?_⟩⟩, x2⟩
  rw [d1]
  by_cases c : j < m
  · rw [w1 j (by omega)]; exact (c4 j c).exo eo
  · have : j = m := by omega
    subst this
    rw [es] at w2
    rw [w2]; exact kv.exo eo
theorem sameAt.trans {h h' h'' : hp_T} {b : Nat} (x : sameAt h h' b) (y : sameAt h' h'' b) : sameAt h h'' b := ⟨y.1.trans x.1, y.2.1.trans x.2.1, fun g i => ⟨(y.2.2 g i).1.trans (x.2.2 g i).1, (y.2.2 g i).2.trans (x.2.2 g i).2⟩⟩
theorem sameAt.sR {h : hp_T} {b q f j : Nat} {v : Option Nat} (ne : ¬ b = q) : sameAt h (hsR h f q j v) b := by
  unfold sameAt
  simp only [hK_sI, hN_sI, hI_sI, hR_sI, hC_sI, hK_sR, hN_sR, hI_sR, hR_sR, hC_sR, hK_new, hN_new, hI_new, hR_new, hC_new, ne, false_and, and_false, if_false, and_self, implies_true]
theorem sameAt.sI {h : hp_T} {b q f j : Nat} {v : Int32} (ne : ¬ b = q) : sameAt h (hsI h f q j v) b := by
  unfold sameAt
  simp only [hK_sI, hN_sI, hI_sI, hR_sI, hC_sI, hK_sR, hN_sR, hI_sR, hR_sR, hC_sR, hK_new, hN_new, hI_new, hR_new, hC_new, ne, false_and, and_false, if_false, and_self, implies_true]
theorem page_new {h : hp_T} {a q q1 q2 : Nat} (h0 : hK h (hC h 0) = 190 ∧ hN h (hC h 0) = 0) (hq : hK h q = 0) (f1 : hK (hnew h q 5 0) q1 = 0) (f2 : hK (hnew h q 5 0) q2 = 0) (ne : ¬ q2 = q1) :
    Ext h (hpage (hnew h q 5 0) q q1 q2 (bI (hI h 322 a 0 = 0))) ∧ pgMir h (hpage (hnew h q 5 0) q q1 q2 (bI (hI h 322 a 0 = 0))) a q 0 0 := by
  obtain ⟨h1, h2⟩ := h0
  have cq : ¬ hC h 0 = q := fun e => by rw [e, hq] at h1; cases h1
  have n1 : ¬ q1 = q := fun e => by rw [e, hK_new, if_pos rfl] at f1; cases f1
  have n2 : ¬ q2 = q := fun e => by rw [e, hK_new, if_pos rfl] at f2; cases f2
  have i22 : isL 22 := by simp [isL]
  have i23 : isL 23 := by simp [isL]
  unfold hpage
  have x0 : Ext h (hnew h q 5 0) := Ext.rfl.new hq 5 0
  have g1 := x0.fresh f1
  have g2 := x0.fresh f2
  obtain ⟨e1, kq1, ok1, s1, d1⟩ := hlist_at (h := hnew h q 5 0) (q := q1) i22 ⟨by rw [hC_new, hK_new, if_neg cq]; exact h1, by rw [hC_new, hN_new, if_neg cq]; exact h2⟩ f1
  have q5 : hK (hlist (hnew h q 5 0) q1 22) q = 5 := e1.K (by rw [hK_new, if_pos rfl]) (by decide)
  have x1 := x0.trans e1
  have f2' : hK (hlist (hnew h q 5 0) q1 22) q2 = 0 := by unfold hlist; simp only [hK_sI, hN_sI, hI_sI, hR_sI, hC_sI, hK_sR, hN_sR, hI_sR, hR_sR, hC_sR, hK_new, hN_new, hI_new, hR_new, hC_new, ne, n2, if_false]; exact g2
  have z1 : ∀ g i, hI (hlist (hnew h q 5 0) q1 22) g q i = 0 ∧ hR (hlist (hnew h q 5 0) q1 22) g q i = none := fun g i => by
    have := (e1.1 q (by rw [hK_new, if_pos rfl]; decide)).2.2 g i
    rw [this.1, this.2, hI_new, hR_new, if_pos rfl, if_pos rfl]
    exact ⟨rfl, rfl⟩
  generalize hlist (hnew h q 5 0) q1 22 = H1 at *
  have x2 : Ext h (hsR H1 320 q 0 (some q1)) := x1.sR hq _ _ _
  have c1 : hK (hsR H1 320 q 0 (some q1)) (hC (hsR H1 320 q 0 (some q1)) 0) = 190 ∧ hN (hsR H1 320 q 0 (some q1)) (hC (hsR H1 320 q 0 (some q1)) 0) = 0 := by
    rw [x2.2]
    obtain ⟨y1, y2, -⟩ := x2.1 (hC h 0) (by rw [h1]; decide)
    exact ⟨y1.trans h1, y2.trans h2⟩
  obtain ⟨e2, kq2, ok2, s2, d2⟩ := hlist_at (h := hsR H1 320 q 0 (some q1)) (q := q2) i23 c1 f2'
  have x3 := x2.trans e2
  have t1 : sameAt H1 (hlist (hsR H1 320 q 0 (some q1)) q2 23) q1 := (sameAt.sR n1).trans (e2.1 q1 (by show hK H1 q1 ≠ 0; rw [kq1]; decide))
  have tc : sameAt H1 (hlist (hsR H1 320 q 0 (some q1)) q2 23) (hC h 0) := (sameAt.sR cq).trans (e2.1 (hC h 0) (by show hK H1 (hC h 0) ≠ 0; rw [x1.K h1 (by decide)]; decide))
  have q5' : hK (hlist (hsR H1 320 q 0 (some q1)) q2 23) q = 5 := e2.K (b := q) q5 (by decide)
  have r5 : hR (hlist (hsR H1 320 q 0 (some q1)) q2 23) 320 q 0 = some q1 := by
    rw [((e2.1 q (by show hK H1 q ≠ 0; rw [q5]; decide)).2.2 _ _).2, hR_sR, if_pos ⟨rfl, rfl, rfl⟩]
  have z2 : hI (hlist (hsR H1 320 q 0 (some q1)) q2 23) 323 q 0 = 0 ∧ hR (hlist (hsR H1 320 q 0 (some q1)) q2 23) 324 q 0 = none := by
    have := (e2.1 q (by show hK H1 q ≠ 0; rw [q5]; decide)).2.2
    rw [(this _ _).1, (this _ _).2]
    simp only [hK_sI, hN_sI, hI_sI, hR_sI, hC_sI, hK_sR, hN_sR, hI_sR, hR_sR, hC_sR, hK_new, hN_new, hI_new, hR_new, hC_new, Nat.reduceEqDiff, false_and, if_false]
    exact ⟨(z1 _ _).1, (z1 _ _).2⟩
  have k3 : ∀ b, hK H1 b ≠ 0 → hK (hlist (hsR H1 320 q 0 (some q1)) q2 23) b = hK H1 b := fun b hb => (e2.1 b hb).1
  have c3 : ∀ i, hC (hlist (hsR H1 320 q 0 (some q1)) q2 23) i = hC H1 i := e2.2
  have x1C := x1.2 0
  generalize hlist (hsR H1 320 q 0 (some q1)) q2 23 = H3 at *
  have dC : lda H1 q1 = hC h 0 := d1
  have dC2 : lda H3 q2 = hC h 0 := d2.trans x1C
  have w1 := ok1.same (h' := hsI (hsR H3 321 q 0 (some q2)) 322 q 0 (bI (hI h 322 a 0 = 0))) (t1.trans ((sameAt.sR n1).trans (sameAt.sI n1))) (by rw [dC]; exact tc.trans ((sameAt.sR cq).trans (sameAt.sI cq))) k3 c3
  have w2 := ok2.same (h' := hsI (hsR H3 321 q 0 (some q2)) 322 q 0 (bI (hI h 322 a 0 = 0))) ((sameAt.sR n2).trans (sameAt.sI n2)) (by rw [dC2]; exact ((sameAt.sR cq).trans (sameAt.sI cq))) (fun _ _ => rfl) (fun _ => rfl)
  have D1 : dR (hsI (hsR H3 321 q 0 (some q2)) 322 q 0 (bI (hI h 322 a 0 = 0))) 320 q = q1 := by
    apply dR_of
    simp only [hK_sI, hN_sI, hI_sI, hR_sI, hC_sI, hK_sR, hN_sR, hI_sR, hR_sR, hC_sR, hK_new, hN_new, hI_new, hR_new, hC_new, Nat.reduceEqDiff, false_and, if_false]; exact r5
  have D2 : dR (hsI (hsR H3 321 q 0 (some q2)) 322 q 0 (bI (hI h 322 a 0 = 0))) 321 q = q2 := by
    apply dR_of
    simp only [hK_sI, hN_sI, hI_sI, hR_sI, hC_sI, hK_sR, hN_sR, hI_sR, hR_sR, hC_sR, hK_new, hN_new, hI_new, hR_new, hC_new, and_self, if_true]
  have k190 : hK (hsI (hsR H3 321 q 0 (some q2)) 322 q 0 (bI (hI h 322 a 0 = 0))) (hC h 0) = 190 := x3.K h1 (by decide)
  refine ⟨(x3.sR hq _ _ _).sI hq _ _ _, ⟨hq, q5', by simp only [hK_sI, hN_sI, hI_sI, hR_sI, hC_sI, hK_sR, hN_sR, hI_sR, hR_sR, hC_sR, hK_new, hN_new, hI_new, hR_new, hC_new, and_self, if_true], by simp only [hK_sI, hN_sI, hI_sI, hR_sI, hC_sI, hK_sR, hN_sR, hI_sR, hR_sR, hC_sR, hK_new, hN_new, hI_new, hR_new, hC_new, Nat.reduceEqDiff, false_and, if_false]; exact z2.1, by simp only [hK_sI, hN_sI, hI_sI, hR_sI, hC_sI, hK_sR, hN_sR, hI_sR, hR_sR, hC_sR, hK_new, hN_new, hI_new, hR_new, hC_new, Nat.reduceEqDiff, false_and, if_false]; exact z2.2⟩,
    ⟨by rw [D1]; simp only [hK_sI, hN_sI, hI_sI, hR_sI, hC_sI, hK_sR, hN_sR, hI_sR, hR_sR, hC_sR, hK_new, hN_new, hI_new, hR_new, hC_new, Nat.reduceEqDiff, false_and, if_false]; exact r5, by rw [D1]; exact (k3 q1 (by rw [kq1]; decide)).trans kq1, by rw [D1]; exact ⟨g1, w1.1, w1.2.1.trans s1, Or.inl (by rw [w1.2.2.1, dC]; exact k190)⟩, fun j hj => absurd hj (Nat.not_lt_zero j)⟩,
    ⟨by rw [D2]; simp only [hK_sI, hN_sI, hI_sI, hR_sI, hC_sI, hK_sR, hN_sR, hI_sR, hR_sR, hC_sR, hK_new, hN_new, hI_new, hR_new, hC_new, and_self, if_true], by rw [D2]; exact kq2, by rw [D2]; exact ⟨g2, w2.1, w2.2.1.trans s2, Or.inl (by rw [w2.2.2.1, dC2]; exact k190)⟩, fun j hj => absurd hj (Nat.not_lt_zero j)⟩⟩
