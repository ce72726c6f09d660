theorem rdG_ext {h h1 : hp_T} (e : Ext h h1) {a : Nat} (k : pgOK h a) (l : Int32) : rdG h1 a l = rdG h a l := by
  have b1 : pBeg h1 a = pBeg h a := funext fun c => (pBeg_ext e k c).1
  have b2 : pEnd h1 a = pEnd h a := funext fun c => (pBeg_ext e k c).2
  unfold rdG
  rw [(k.ext e).2.1, b1, b2]
theorem rdOf.old {h h1 h' : hp_T} {a r : Nat} {l : Int32} (e : Ext h h1) (k : pgOK h a) (z : rdOf h1 h' a l r) : rdOf h h' a l r := by
  unfold rdOf at *
  rw [rdG_ext e k] at z
  exact z
theorem rdOf.put {h h' : hp_T} {a r q : Nat} {l : Int32} (k : pgOK h a) (e : Ext h h') (hq : hK h q = 0) (z : rdOf h h' a l r) (i : Nat) (v : Int32) : rdOf h (hsI h' 152 q i v) a l r := by
  obtain ⟨⟨⟨r1, r2, r3⟩, ⟨r4, r5, r6⟩, kA⟩, z1, z2, z3, z4, z5, z6⟩ := z
  refine ⟨⟨⟨r1, r2, ?_⟩, ⟨r4, r5, r6⟩, ?_⟩, z1, ?_, z3, ?_, ?_, fun j hj => ?_⟩
  · simp only [hK_sI, hN_sI, hI_sI, hR_sI, hC_sI, Nat.reduceEqDiff, false_and, if_false]; exact r3
  · show pgOK (hsI h' 152 q i v) (dR h' 448 r)
    rw [z1]; exact (k.ext (e.sI hq _ _ _)).1
  · simp only [hK_sI, hN_sI, hI_sI, hR_sI, hC_sI, Nat.reduceEqDiff, false_and, if_false]; exact z2
  · simp only [hK_sI, hN_sI, hI_sI, hR_sI, hC_sI, Nat.reduceEqDiff, false_and, if_false]; exact z4
  · simp only [hK_sI, hN_sI, hI_sI, hR_sI, hC_sI, Nat.reduceEqDiff, false_and, if_false]; exact z5
  · show hI (hsI h' 152 q i v) 150 (dR h' 450 r) j = _
    simp only [hK_sI, hN_sI, hI_sI, hR_sI, hC_sI, Nat.reduceEqDiff, false_and, if_false]; exact z6 j hj
theorem sumI_cg (f g : Nat → Int32) : ∀ n, (∀ i, i < n → f i = g i) → sumI f n = sumI g n
  | 0, _ => rfl
  | n + 1, h => by
    rw [sumI, sumI, sumI_cg f g n (fun i hi => h i (by omega)), h n (by omega)]
/-- the answers in print, up to place n -/
def prOf (h h' : hp_T) (a : Nat) (w : Int32) (q n : Nat) : Prop := hK h q = 0 ∧ hK h' q = 152 ∧ hN h' q = 11 ∧ hI h' 152 q 0 = w ∧ hI h' 152 q 1 = nI (pnN h a) ∧ hI h' 152 q 2 = sumI (fun i => hI h 130 (bl h a i) 0) (blN h a) ∧ ∀ j, j + 3 < n → hI h' 152 q (j + 3) = ordI (rdG h a (hI h 322 a 0)).1 j
def wp_X3_answersInPrint_0 (P : Option Value → hp_T → Prop) (X : String → hp_T → Prop) (K38 : KT) : KT :=
  i_pushI 11 (i_newarr 152 11 (i_astore 2 (i_aload 2 (i_pushI 0 (i_iload 1 (i_ast 152 (i_aload 2 (i_pushI 1 (i_aload 0 (i_getR 5 320 (i_callV 0 1 T_Jx4a65c_size_8abf5 noX (i_ast 152 (i_aload 2
    (i_pushI 2 (i_aload 0 (i_callV 0 5 T_X3_countLetters noX (i_ast 152 (i_aload 0 (i_aload 0 (i_getI 5 322 (i_callS 2 T_X5_of noX (i_astore 3 (i_pushI 3 (i_istore 4 K38))))))))))))))))))))))))
set_option maxRecDepth 20000 in
theorem go_X3_answersInPrint_0 {z : zT} {P : Option Value → hp_T → Prop} {X : String → hp_T → Prop} {K38 : KT} (hz : Cx z cX3_answersInPrint 5 "Panelry$Page" "answersInPrint" 15 3 24) (hr : Rt z (some (.array .int)) P X 3 24) (h38 : Go z 3 24 38 K38) : Go z 0 0 0 (wp_X3_answersInPrint_0 P X K38) := 
  s_bipush hz rfl dX3_answersInPrint_0 (s_newarr (at0 := .int) (ty := .int) hz rfl rfl rfl rfl (Or.inl ⟨rfl, rfl⟩) w162 rfl rfl rfl dX3_answersInPrint_2 (s_astore_n hz rfl rfl dX3_answersInPrint_4
    (s_aload_n hz rfl dX3_answersInPrint_5 (s_iconst hz rfl dX3_answersInPrint_6 (s_iload_n hz rfl dX3_answersInPrint_7 (s_iast hz rfl rfl rfl rfl dX3_answersInPrint_8 (s_aload_n hz rfl dX3_answersInPrint_9
    (s_iconst hz rfl dX3_answersInPrint_10 (s_aload_n hz rfl dX3_answersInPrint_11 (fg_RX3_12 hz dX3_answersInPrint_12 (s_callV hz ct_Jx4a65c_size_8abf5 ⟨w167, w115, w32, by decide, by decide, by decide +kernel⟩ w113 w114 cls0 rfl rfl rfl rfl rfl rfl out_no dX3_answersInPrint_15
    (s_iast hz rfl rfl rfl rfl dX3_answersInPrint_18 (s_aload_n hz rfl dX3_answersInPrint_19 (s_iconst hz rfl dX3_answersInPrint_20 (s_aload_n hz rfl dX3_answersInPrint_21 (s_callV hz ct_X3_countLetters ⟨w914, w917, w38, by decide, by decide, by decide +kernel⟩ w916 w16 cls4 rfl rfl rfl rfl rfl rfl out_no dX3_answersInPrint_22
    (s_iast hz rfl rfl rfl rfl dX3_answersInPrint_25 (s_aload_n hz rfl dX3_answersInPrint_26 (s_aload_n hz rfl dX3_answersInPrint_27 (fg_RX3_21 hz dX3_answersInPrint_28 (s_callS hz ct_X5_of ⟨w135, w137, w49, by decide, by decide, by decide +kernel⟩ w136 rfl rfl rfl rfl out_no dX3_answersInPrint_31
    (s_astore_n hz rfl rfl dX3_answersInPrint_34 (s_iconst hz rfl dX3_answersInPrint_35 (s_istore hz rfl dX3_answersInPrint_36 h38))))))))))))))))))))))))
def wp_X3_answersInPrint_38 (P : Option Value → hp_T → Prop) (X : String → hp_T → Prop) (K38 : KT) : KT :=
  i_iload 4 (i_aload 2 (i_alen (i_icge (i_aload 2 (i_aret P)) (i_aload 2 (i_iload 4 (i_aload 3 (i_iload 4 (i_pushI 3 (i_isub (i_callV 1 7 T_X5_panelAt noX (i_ast 152 (i_iinc 4 1 K38))))))))))))
set_option maxRecDepth 20000 in
theorem go_X3_answersInPrint_38 {z : zT} {P : Option Value → hp_T → Prop} {X : String → hp_T → Prop} {K38 : KT} (hz : Cx z cX3_answersInPrint 5 "Panelry$Page" "answersInPrint" 15 3 24) (hr : Rt z (some (.array .int)) P X 3 24) (h38 : Go z 3 24 38 K38) : Go z 3 24 38 (wp_X3_answersInPrint_38 P X K38) := 
  s_iload hz dX3_answersInPrint_38 (s_aload_n hz rfl dX3_answersInPrint_40 (s_alen hz dX3_answersInPrint_41 (s_icge hz (tgt := 63) rfl dX3_answersInPrint_42 (s_aload_n hz rfl dX3_answersInPrint_63
    (s_aret hz hr (Or.inr ⟨_, rfl⟩) rfl rfl dX3_answersInPrint_64)) (s_aload_n hz rfl dX3_answersInPrint_45 (s_iload hz dX3_answersInPrint_46 (s_aload_n hz rfl dX3_answersInPrint_48 (s_iload hz dX3_answersInPrint_49
    (s_iconst hz rfl dX3_answersInPrint_51 (s_isub hz dX3_answersInPrint_52 (s_callV hz ct_X5_panelAt ⟨w211, w214, w49, by decide, by decide, by decide +kernel⟩ w212 w213 cls6 rfl rfl rfl rfl rfl rfl out_no dX3_answersInPrint_53
    (s_iast hz rfl rfl rfl rfl dX3_answersInPrint_56 (s_iinc hz rfl rfl dX3_answersInPrint_57 (s_goto hz (tgt := 38) rfl dX3_answersInPrint_60 h38)))))))))))))

def T_X3_answersInPrint : PT := fun av h P X => match av with
  | [.ref a, .int w] => (pgOK h a) ∧ (∀ h' q, Ext h h' → prOf h h' a w q 11 → P (some (.ref q)) h')
  | _ => False
set_option maxRecDepth 20000 in
theorem ct_X3_answersInPrint : CT yX3_answersInPrint cX3_answersInPrint 5 (some (.array .int)) 15 3 24 T_X3_answersInPrint := by
  refine ct_ofE (by decide) (fun z av h P X hT hz hr => ?_) (fun av h P X hT => ?_)
  · unfold T_X3_answersInPrint at hT
    split at hT
    · rename_i a w
      obtain ⟨hk, hp⟩ := hT
      obtain ⟨k1, ⟨k2, k3, k4, k5, k6⟩, ⟨k7, k8, k9, k10, k11⟩, k12, k13⟩ := id hk
      have eN : lsz h (dR h 320 a) = pnN h a := rfl
      have eB : lsz h (dR h 321 a) = blN h a := rfl
      have eP : ∀ j, lel h (dR h 320 a) j = pn h a j := fun _ => rfl
      have eL : ∀ j, lel h (dR h 321 a) j = bl h a j := fun _ => rfl
      have eQ : ∀ j, dR h 384 (pn h a j) = pb h a j := fun _ => rfl
      have eR : ∀ j, dR h 131 (bl h a j) = bb h a j := fun _ => rfl
      have hloop := Go.loop (z := z) (cells := 3) (slots := 24) (pc := 38) (fun n ls st h' => ∃ i q r, i + n = 11 ∧ 3 ≤ i ∧ ls = [some (.ref a), some (.int w), some (.ref q), some (.ref r), some (.int (nI i))] ∧ st = [] ∧ Ext h h' ∧ prOf h h' a w q i ∧ rdOf h h' a (hI h 322 a 0) r) (fun k => wp_X3_answersInPrint_38 P X k) (fun k hgo => go_X3_answersInPrint_38 hz hr hgo) (by
        rintro n ls st h' ⟨i, q, r, hi, h3, rfl, rfl, hE, hP, hR⟩
        have hcl : (nI i).toNatClampNeg = i := nI_clamp (by omega)
        obtain ⟨p1, p2, p3, p4, p5, p6, p7⟩ := id hP
        have o11 : Int32.ofNat 11 = nI 11 := rfl
        have hge : (nI 11 ≤ nI i) ↔ ¬ i < 11 := by rw [leI (by omega) (by omega)]; omega
        have kr := hR.1
        have kr7 := hR.1.1.1
        simp only [wp_X3_answersInPrint_0, wp_X3_answersInPrint_38, T_Jx4a65c_size_8abf5, T_X3_countLetters, T_X5_of, T_X5_panelAt, i_mmax, i_mmin, i_pushI, i_pushN, i_pushL, i_iload, i_aload, i_istore, i_astore, i_iinc, i_iadd, i_isub, i_imul, i_iand, i_ior, i_ixor, i_ishl, i_ishr, i_iushr, i_idiv, i_i2l, i_lcmp, i_dup, i_pop, i_dupx1, i_dup2, i_ifeq, i_ifne, i_iflt, i_ifge, i_ifgt, i_ifle, i_iceq, i_icne, i_iclt, i_icge, i_icgt, i_icle, i_ifnull, i_aceq, i_getI, i_getR, i_putI, i_putZ, i_putR, i_new, i_newarr, i_ald, i_lald, i_aald, i_alen, i_ast, i_zast, i_last, i_aast, i_aastL, i_cast, i_gste, i_ldcM, i_getC, i_acopy, i_dead, i_objinit, i_callV, i_callS, i_callI, i_iret, i_zret, i_aret, i_vret, i_throw, popN, pushO, lget, lset, isRf_ref, isRf_null, isRf_rf, isC1_int, isC1_ref, isC1_null, isC1_rf, true_and, and_true, List.length_cons, List.length_nil, Nat.reduceAdd, Nat.reduceLeDiff, hK_sI, hN_sI, hR_sI, hI_sI, hK_sR, hN_sR, hR_sR, hI_sR, kC_2, kC_3, kC_4, kC_5, kC_6, kC_7, kC_8, kC_9, kC_10, kC_11, kC_20, kC_21, kC_22, kC_23, i2_0, i1_1, i0_1, i1_0, bI_and, bI_0, Decidable.not_not, not_false_eq_true, not_true_eq_false, forall_const, false_implies, true_implies, hK_copy, hN_copy, hI_copy, hC_sI, hC_sR, hC_new, hK_new, hN_new, hI_new, hR_new, rf_some, rf_none, ex_ref, ex_null, ex_rf, nref_null, rf_null, Nat.reduceEqDiff, reduceCtorEq, false_and, and_false, if_false, if_true, ne_eq, kO_150, kO_151, kO_152, kO_170, kO_180, kO_190, Value.ref.injEq, exists_eq_left', false_or, p2, p3, o11, hge, hcl, kr, kr7]
        refine ⟨fun e => ?_, fun e => ⟨vp_in_nI (by omega) (by omega), n - 1, by omega, i + 1, q, r, by omega, by omega, by rw [nI_1], hE.sI p1 _ _ _, ?_, hR.put hk hE p1 _ _⟩⟩
        · have : i = 11 := by omega
          subst this
          exact hp h' q hE hP
        · rw [show nI i - 3 = nI (i - 3) by
            have : ∀ i, i < 11 → 3 ≤ i → nI i - 3 = nI (i - 3) := by decide
            exact this i e h3, rdOf_at hR (by omega)]
          refine ⟨p1, p2, p3, ?_, ?_, ?_, fun j hj => ?_⟩
          · rw [hI_sI, if_neg (by omega)]; exact p4
          · rw [hI_sI, if_neg (by omega)]; exact p5
          · rw [hI_sI, if_neg (by omega)]; exact p6
          · rw [hI_sI]
            by_cases c : j + 3 = i
            · rw [if_pos ⟨rfl, rfl, c⟩, show i - 3 = j by omega]
            · rw [if_neg (fun z => c z.2.2)]; exact p7 j (by omega))
      refine ⟨_, go_X3_answersInPrint_0 hz hr hloop, ?_⟩
      show wp_X3_answersInPrint_0 P X _ [some (.ref a), some (.int w), none, none, none] [] h
      simp only [wp_X3_answersInPrint_0, T_Jx4a65c_size_8abf5, T_X5_of, k1, i_mmax, i_mmin, i_pushI, i_pushN, i_pushL, i_iload, i_aload, i_istore, i_astore, i_iinc, i_iadd, i_isub, i_imul, i_iand, i_ior, i_ixor, i_ishl, i_ishr, i_iushr, i_idiv, i_i2l, i_lcmp, i_dup, i_pop, i_dupx1, i_dup2, i_ifeq, i_ifne, i_iflt, i_ifge, i_ifgt, i_ifle, i_iceq, i_icne, i_iclt, i_icge, i_icgt, i_icle, i_ifnull, i_aceq, i_getI, i_getR, i_putI, i_putZ, i_putR, i_new, i_newarr, i_ald, i_lald, i_aald, i_alen, i_ast, i_zast, i_last, i_aast, i_aastL, i_cast, i_gste, i_ldcM, i_getC, i_acopy, i_dead, i_objinit, i_callV, i_callS, i_callI, i_iret, i_zret, i_aret, i_vret, i_throw, popN, pushO, lget, lset, isRf_ref, isRf_null, isRf_rf, isC1_int, isC1_ref, isC1_null, isC1_rf, true_and, and_true, List.length_cons, List.length_nil, Nat.reduceAdd, Nat.reduceLeDiff, hK_sI, hN_sI, hR_sI, hI_sI, hK_sR, hN_sR, hR_sR, hI_sR, kC_2, kC_3, kC_4, kC_5, kC_6, kC_7, kC_8, kC_9, kC_10, kC_11, kC_20, kC_21, kC_22, kC_23, i2_0, i1_1, i0_1, i1_0, bI_and, bI_0, Decidable.not_not, not_false_eq_true, not_true_eq_false, forall_const, false_implies, true_implies, hK_copy, hN_copy, hI_copy, hC_sI, hC_sR, hC_new, hK_new, hN_new, hI_new, hR_new, rf_some, rf_none, ex_ref, ex_null, ex_rf, nref_null, rf_null, Nat.reduceEqDiff, reduceCtorEq, false_and, and_false, if_false, if_true, ne_eq, kO_150, kO_151, kO_152, kO_170, kO_180, kO_190, Value.ref.injEq, exists_eq_left', false_or]
      refine ⟨by decide, fun q hq => ?_⟩
      have z0 : Int32.toNatClampNeg 0 = 0 := by decide
      have z1 : Int32.toNatClampNeg 1 = 1 := by decide
      have z2 : Int32.toNatClampNeg 2 = 2 := by decide
      have z11 : Int32.toNatClampNeg 11 = 11 := by decide
      have aq : ¬ a = q := fun e => by rw [e, hq] at k1; cases k1
      have lq : ¬ dR h 320 a = q := fun e => by rw [e, hq] at k3; cases k3
      have v0 : vp_in 0 11 := @id (vp_in (nI 0) 11) (vp_in_nI (by omega) (by omega))
      have v1 : vp_in 1 11 := @id (vp_in (nI 1) 11) (vp_in_nI (by omega) (by omega))
      have v2 : vp_in 2 11 := @id (vp_in (nI 2) 11) (vp_in_nI (by omega) (by omega))
      have L1 := k4.ext ((Ext.rfl.new hq 152 11).sI hq 152 0 w)
      have L2 := L1.1
      have L3 := L1.2.1
      rw [eN] at L3
      simp only [z0, z1, z2, z11, aq, lq, k1, k2, k3, v0, v1, v2, L2, L3, i_mmax, i_mmin, i_pushI, i_pushN, i_pushL, i_iload, i_aload, i_istore, i_astore, i_iinc, i_iadd, i_isub, i_imul, i_iand, i_ior, i_ixor, i_ishl, i_ishr, i_iushr, i_idiv, i_i2l, i_lcmp, i_dup, i_pop, i_dupx1, i_dup2, i_ifeq, i_ifne, i_iflt, i_ifge, i_ifgt, i_ifle, i_iceq, i_icne, i_iclt, i_icge, i_icgt, i_icle, i_ifnull, i_aceq, i_getI, i_getR, i_putI, i_putZ, i_putR, i_new, i_newarr, i_ald, i_lald, i_aald, i_alen, i_ast, i_zast, i_last, i_aast, i_aastL, i_cast, i_gste, i_ldcM, i_getC, i_acopy, i_dead, i_objinit, i_callV, i_callS, i_callI, i_iret, i_zret, i_aret, i_vret, i_throw, popN, pushO, lget, lset, isRf_ref, isRf_null, isRf_rf, isC1_int, isC1_ref, isC1_null, isC1_rf, true_and, and_true, List.length_cons, List.length_nil, Nat.reduceAdd, Nat.reduceLeDiff, hK_sI, hN_sI, hR_sI, hI_sI, hK_sR, hN_sR, hR_sR, hI_sR, kC_2, kC_3, kC_4, kC_5, kC_6, kC_7, kC_8, kC_9, kC_10, kC_11, kC_20, kC_21, kC_22, kC_23, i2_0, i1_1, i0_1, i1_0, bI_and, bI_0, Decidable.not_not, not_false_eq_true, not_true_eq_false, forall_const, false_implies, true_implies, hK_copy, hN_copy, hI_copy, hC_sI, hC_sR, hC_new, hK_new, hN_new, hI_new, hR_new, rf_some, rf_none, ex_ref, ex_null, ex_rf, nref_null, rf_null, Nat.reduceEqDiff, reduceCtorEq, false_and, and_false, if_false, if_true, ne_eq, kO_150, kO_151, kO_152, kO_170, kO_180, kO_190, Value.ref.injEq, exists_eq_left', false_or]
      have E2 : Ext h (hsI (hsI (hnew h q 152 11) 152 q 0 w) 152 q 1 (nI (pnN h a))) := ((Ext.rfl.new hq 152 11).sI hq 152 0 w).sI hq 152 1 (nI (pnN h a))
      have kq : hK (hsI (hsI (hnew h q 152 11) 152 q 0 w) 152 q 1 (nI (pnN h a))) q = 152 := by simp only [hK_sI, hK_new, if_true]
      have nq : hN (hsI (hsI (hnew h q 152 11) 152 q 0 w) 152 q 1 (nI (pnN h a))) q = 11 := by simp only [hN_sI, hN_new, if_true]
      have g0 : hI (hsI (hsI (hnew h q 152 11) 152 q 0 w) 152 q 1 (nI (pnN h a))) 152 q 0 = w := by simp only [hI_sI, Nat.reduceEqDiff, reduceCtorEq, and_false, if_false, and_self, if_true]
      have g1 : hI (hsI (hsI (hnew h q 152 11) 152 q 0 w) 152 q 1 (nI (pnN h a))) 152 q 1 = nI (pnN h a) := by simp only [hI_sI, and_self, if_true]
      generalize hsI (hsI (hnew h q 152 11) 152 q 0 w) 152 q 1 (nI (pnN h a)) = G at E2 kq nq g0 g1 ⊢
      have kA2 := hk.ext E2
      have eS : sumI (fun i => hI G 130 (bl G a i) 0) (blN G a) = sumI (fun i => hI h 130 (bl h a i) 0) (blN h a) := by
        rw [kA2.2.2.2.1]
        refine sumI_cg _ _ _ (fun i hi => ?_)
        show hI G 130 (bl G a i) 0 = hI h 130 (bl h a i) 0
        rw [kA2.2.2.2.2.1, ((E2.1 _ (by rw [(k11 i hi).1]; decide)).2.2 _ _).1]
      have kG5 := kA2.1.1
      have e322 : hI G 322 a 0 = hI h 322 a 0 := ((E2.1 a (by rw [k1]; decide)).2.2 _ _).1
      unfold T_X3_countLetters
      refine ⟨kA2.1, ?_⟩
      rw [eS]
      have kA3 : ∀ v, pgOK (hsI G 152 q 2 v) a := fun v => (hk.ext (E2.sI hq _ _ _)).1
      simp only [kq, nq, v2, z2, kG5, kA3, e322, k12, i_mmax, i_mmin, i_pushI, i_pushN, i_pushL, i_iload, i_aload, i_istore, i_astore, i_iinc, i_iadd, i_isub, i_imul, i_iand, i_ior, i_ixor, i_ishl, i_ishr, i_iushr, i_idiv, i_i2l, i_lcmp, i_dup, i_pop, i_dupx1, i_dup2, i_ifeq, i_ifne, i_iflt, i_ifge, i_ifgt, i_ifle, i_iceq, i_icne, i_iclt, i_icge, i_icgt, i_icle, i_ifnull, i_aceq, i_getI, i_getR, i_putI, i_putZ, i_putR, i_new, i_newarr, i_ald, i_lald, i_aald, i_alen, i_ast, i_zast, i_last, i_aast, i_aastL, i_cast, i_gste, i_ldcM, i_getC, i_acopy, i_dead, i_objinit, i_callV, i_callS, i_callI, i_iret, i_zret, i_aret, i_vret, i_throw, popN, pushO, lget, lset, isRf_ref, isRf_null, isRf_rf, isC1_int, isC1_ref, isC1_null, isC1_rf, true_and, and_true, List.length_cons, List.length_nil, Nat.reduceAdd, Nat.reduceLeDiff, hK_sI, hN_sI, hR_sI, hI_sI, hK_sR, hN_sR, hR_sR, hI_sR, kC_2, kC_3, kC_4, kC_5, kC_6, kC_7, kC_8, kC_9, kC_10, kC_11, kC_20, kC_21, kC_22, kC_23, i2_0, i1_1, i0_1, i1_0, bI_and, bI_0, Decidable.not_not, not_false_eq_true, not_true_eq_false, forall_const, false_implies, true_implies, hK_copy, hN_copy, hI_copy, hC_sI, hC_sR, hC_new, hK_new, hN_new, hI_new, hR_new, rf_some, rf_none, ex_ref, ex_null, ex_rf, nref_null, rf_null, Nat.reduceEqDiff, reduceCtorEq, false_and, and_false, if_false, if_true, ne_eq, kO_150, kO_151, kO_152, kO_170, kO_180, kO_190, Value.ref.injEq, exists_eq_left', false_or]
      intro h2 r e3 hr
      obtain ⟨y1, y2, y3⟩ := e3.1 q (by show hK G q ≠ 0; rw [kq]; decide)
      refine ⟨8, 3, q, r, by omega, by omega, rfl, (E2.sI hq _ _ _).trans e3, ⟨hq, y1.trans kq, y2.trans nq, ?_, ?_, ?_, fun j hj => by omega⟩, hr.old (E2.sI hq _ _ _) hk⟩
      · rw [(y3 _ _).1, hI_sI, if_neg (by omega)]; exact g0
      · rw [(y3 _ _).1, hI_sI, if_neg (by omega)]; exact g1
      · rw [(y3 _ _).1, hI_sI, if_pos ⟨rfl, rfl, rfl⟩]
    · exact hT.elim
  · unfold T_X3_answersInPrint at hT
    split at hT
    · exact ⟨Nat.le_of_ble_eq_true rfl, by simp [isC1_int, isC1_ref, isC1_null, isC1_rf]⟩
    · exact hT.elim
