/-- who speaks a balloon, as drawn in a panel -/
def spk (h : hp_T) (q w : Nat) : Option Nat := if ¬ hI h 129 w 0 < 0 ∧ hI h 129 w 0 < 12 then pnFO h q (hI h 129 w 0).toNatClampNeg else none
theorem spk_ok {h : hp_T} {q w c : Nat} (k : pnOK h q) (e : spk h q w = some c) : fcOK h c := by
  unfold spk at e
  split at e
  · next z => exact k.2.2 _ ((nI_lt8 (n := 12) z.1 z.2 (by omega)).1) c e
  · cases e
abbrev mX (h : hp_T) (b : Nat) : Int32 := hI h 192 b 0 + hI h 194 b 0 / 2
abbrev mY (h : hp_T) (b : Nat) : Int32 := hI h 193 b 0 + hI h 195 b 0 / 2
/-- a new tail between two rectangles -/
def htail (h : hp_T) (q b c : Nat) : hp_T := hsI (hsI (hsI (hsI (hnew h q 8 0) 512 q 0 (mX h b)) 513 q 0 (mY h b)) 514 q 0 (mX h c)) 515 q 0 (mY h c)
theorem htail_ext {h : hp_T} {q : Nat} (b c : Nat) (hq : hK h q = 0) : Ext h (htail h q b c) := (((((Ext.rfl.new hq 8 0).sI hq _ _ _).sI hq _ _ _).sI hq _ _ _).sI hq _ _ _)
theorem htail_at (h : hp_T) (q b c : Nat) : hK (htail h q b c) q = 8 ∧ hI (htail h q b c) 512 q 0 = mX h b ∧ hI (htail h q b c) 513 q 0 = mY h b ∧ hI (htail h q b c) 514 q 0 = mX h c ∧ hI (htail h q b c) 515 q 0 = mY h c := by
  unfold htail
  simp only [hK_sI, hN_sI, hI_sI, hR_sI, hC_sI, hK_sR, hN_sR, hI_sR, hR_sR, hC_sR, hK_new, hN_new, hI_new, hR_new, hC_new, Nat.reduceEqDiff, and_self, false_and, if_true, if_false]
abbrev tCo (h : hp_T) (t : Nat) (R : Int32 → Int32 → Int32 → Int32 → Prop) : Prop := R (hI h 512 t 0) (hI h 513 t 0) (hI h 514 t 0) (hI h 515 t 0)
/-- the tail of one balloon meets that of another one -/
def tHit (h : hp_T) (q w o : Nat) (a1 a2 a3 a4 : Int32) : Prop := ∃ c, spk h q o = some c ∧ (if hI h 129 o 0 = hI h 129 w 0 then tAlN a1 a2 a3 a4 (mX h (dR h 131 o)) (mY h (dR h 131 o)) (mX h (dR h 256 c)) (mY h (dR h 256 c)) else tMeN a1 a2 a3 a4 (mX h (dR h 131 o)) (mY h (dR h 131 o)) (mX h (dR h 256 c)) (mY h (dR h 256 c)))
theorem rf_if (P : Prop) [Decidable P] (o : Option Nat) : (if P then o else none) = (if P then o else none) := rfl
def wp_X3_isTailMet_61 (P : Option Value → hp_T → Prop) (X : String → hp_T → Prop) : KT :=
  i_zret P
set_option maxRecDepth 20000 in
theorem go_X3_isTailMet_61 {z : zT} {P : Option Value → hp_T → Prop} {X : String → hp_T → Prop} (hz : Cx z cX3_isTailMet 6 "Panelry$Page" "isTailMet" 3 1 4) (hr : Rt z (some .boolean) P X 1 4) : Go z 1 4 61 (wp_X3_isTailMet_61 P X) := 
  s_zret hz hr rfl rfl dX3_isTailMet_61
def wp_X3_isTailMet_0 (P : Option Value → hp_T → Prop) (X : String → hp_T → Prop) : KT :=
  i_aload 3 (i_aload 2 (i_getI 2 129 (i_callV 1 6 T_X4_faceOf noX (i_astore 4 (i_aload 4 (i_ifnull (i_pushI 0 (i_zret P)) (i_new 8 (i_dup (i_aload 2 (i_getR 2 131 (i_aload 4 (i_getR 4 256
    (i_callI 2 T_X6_init noX (i_astore 5 (i_aload 2 (i_getI 2 129 (i_aload 1 (i_getI 2 129 (i_icne (i_aload 0 (i_aload 5 (i_callV 1 8 T_X6_meets noX (wp_X3_isTailMet_61 P X)))) (i_aload 0
    (i_aload 5 (i_callV 1 8 T_X6_runsAlong noX (wp_X3_isTailMet_61 P X)))))))))))))))))))))))
set_option maxRecDepth 20000 in
theorem go_X3_isTailMet_0 {z : zT} {P : Option Value → hp_T → Prop} {X : String → hp_T → Prop} (hz : Cx z cX3_isTailMet 6 "Panelry$Page" "isTailMet" 3 1 4) (hr : Rt z (some .boolean) P X 1 4) : Go z 0 0 0 (wp_X3_isTailMet_0 P X) := 
  s_aload_n hz rfl dX3_isTailMet_0 (s_aload_n hz rfl dX3_isTailMet_1 (fg_RX3_68 hz dX3_isTailMet_2 (s_callV hz ct_X4_faceOf ⟨w744, w739, w48, by decide, by decide, by decide +kernel⟩ w737 w738 cls5 rfl rfl rfl rfl rfl rfl out_no dX3_isTailMet_5
    (s_astore hz rfl dX3_isTailMet_8 (s_aload hz dX3_isTailMet_10 (s_ifnonnull hz (tgt := 17) rfl dX3_isTailMet_12 (s_iconst hz rfl dX3_isTailMet_15 (s_zret hz hr rfl rfl dX3_isTailMet_16))
    (s_new hz kO_8 cls7 w745 w746 w53 rfl rfl dX3_isTailMet_17 (s_dup hz dX3_isTailMet_20 (s_aload_n hz rfl dX3_isTailMet_21 (fg_RX3_63 hz dX3_isTailMet_22 (s_aload hz dX3_isTailMet_25 (fg_RX3_77 hz dX3_isTailMet_27
    (s_callI hz ct_X6_init ⟨w747, w749, w53, by decide, by decide, by decide +kernel⟩ w748 rfl rfl rfl rfl rfl out_no dX3_isTailMet_30 (s_astore hz rfl dX3_isTailMet_33 (s_aload_n hz rfl dX3_isTailMet_35
    (fg_RX3_68 hz dX3_isTailMet_36 (s_aload_n hz rfl dX3_isTailMet_39 (fg_RX3_68 hz dX3_isTailMet_40 (s_icne hz (tgt := 55) rfl dX3_isTailMet_43 (s_aload_n hz rfl dX3_isTailMet_55 (s_aload hz dX3_isTailMet_56
    (s_callV hz ct_X6_meets ⟨w797, w800, w53, by decide, by decide, by decide +kernel⟩ w798 w799 cls7 rfl rfl rfl rfl rfl rfl out_no dX3_isTailMet_58 (go_X3_isTailMet_61 hz hr)))) (s_aload_n hz rfl dX3_isTailMet_46
    (s_aload hz dX3_isTailMet_47 (s_callV hz ct_X6_runsAlong ⟨w793, w796, w53, by decide, by decide, by decide +kernel⟩ w794 w795 cls7 rfl rfl rfl rfl rfl rfl out_no dX3_isTailMet_49 (s_goto hz
    (tgt := 61) rfl dX3_isTailMet_52 (go_X3_isTailMet_61 hz hr))))))))))))))))))))))))

def T_X3_isTailMet : PT := fun av h P X => match av with
  | [.ref t, .ref w, .ref o, .ref q] => (hK h t = 8 ∧ blOK h w ∧ blOK h o ∧ pnOK h q) ∧ (∀ h', Ext h h' → P (some (.int (bI (tHit h q w o (hI h 512 t 0) (hI h 513 t 0) (hI h 514 t 0) (hI h 515 t 0))))) h')
  | _ => False
set_option maxRecDepth 20000 in
theorem ct_X3_isTailMet : CT yX3_isTailMet cX3_isTailMet 6 (some .boolean) 3 1 4 T_X3_isTailMet := by
  refine ct_ofE (by decide) (fun z av h P X hT hz hr => ?_) (fun av h P X hT => ?_)
  · unfold T_X3_isTailMet at hT
    split at hT
    · refine ⟨_, go_X3_isTailMet_0 hz hr, ?_⟩
      rename_i t w o q
      show wp_X3_isTailMet_0 P X [some (.ref t), some (.ref w), some (.ref o), some (.ref q), none, none] [] h
      obtain ⟨hk, hp⟩ := hT
      obtain ⟨kt, ⟨w1, w2, w3⟩, ⟨o1, o2, o3⟩, kq⟩ := hk
      have q1 := kq.1
      have eS : (if ¬ hI h 129 o 0 < 0 ∧ hI h 129 o 0 < 12 then pnFO h q (hI h 129 o 0).toNatClampNeg else none) = spk h q o := rfl
      simp only [wp_X3_isTailMet_61, wp_X3_isTailMet_0, T_X4_faceOf, T_X6_init, T_X6_runsAlong, T_X6_meets, kt, w1, w2, w3, o1, o2, o3, q1, q1.1, eS, i_mmax, i_mmin, i_pushI, i_pushN, i_pushL, i_iload, i_aload, i_istore, i_astore, i_iinc, i_iadd, i_isub, i_imul, i_iand, i_ior, i_ixor, i_ishl, i_ishr, i_iushr, i_idiv, i_i2l, i_lcmp, i_dup, i_pop, i_dupx1, i_dup2, i_ifeq, i_ifne, i_iflt, i_ifge, i_ifgt, i_ifle, i_iceq, i_icne, i_iclt, i_icge, i_icgt, i_icle, i_ifnull, i_aceq, i_getI, i_getR, i_putI, i_putZ, i_putR, i_new, i_newarr, i_ald, i_lald, i_aald, i_alen, i_ast, i_zast, i_last, i_aast, i_aastL, i_cast, i_gste, i_ldcM, i_getC, i_acopy, i_dead, i_objinit, i_callV, i_callS, i_callI, i_iret, i_zret, i_aret, i_vret, i_throw, popN, pushO, lget, lset, isRf_ref, isRf_null, isRf_rf, isC1_int, isC1_ref, isC1_null, isC1_rf, true_and, and_true, List.length_cons, List.length_nil, Nat.reduceAdd, Nat.reduceLeDiff, hK_sI, hN_sI, hR_sI, hI_sI, hK_sR, hN_sR, hR_sR, hI_sR, kC_2, kC_3, kC_4, kC_5, kC_6, kC_7, kC_8, kC_9, kC_10, kC_11, kC_20, kC_21, kC_22, kC_23, i2_0, i1_1, i0_1, i1_0, bI_and, bI_0, Decidable.not_not, not_false_eq_true, not_true_eq_false, forall_const, false_implies, true_implies, hK_copy, hN_copy, hI_copy, hC_sI, hC_sR, hC_new, hK_new, hN_new, hI_new, hR_new, rf_some, rf_none, ex_ref, ex_null, ex_rf, nref_null, rf_null, Nat.reduceEqDiff, reduceCtorEq, false_and, and_false, if_false, if_true, ne_eq, kO_150, kO_151, kO_152, kO_170, kO_180, kO_190, Value.ref.injEq, exists_eq_left', false_or]
      refine ⟨fun e => ?_, fun e => ?_⟩
      · have := hp h Ext.rfl
        rw [bI_f (fun ⟨c, hc, _⟩ => by rw [e] at hc; cases hc)] at this
        exact this
      · obtain ⟨c, hc⟩ := (pn_null _).mp e
        obtain ⟨c1, c2, c3, c4⟩ := spk_ok kq hc
        simp only [hc, i_mmax, i_mmin, i_pushI, i_pushN, i_pushL, i_iload, i_aload, i_istore, i_astore, i_iinc, i_iadd, i_isub, i_imul, i_iand, i_ior, i_ixor, i_ishl, i_ishr, i_iushr, i_idiv, i_i2l, i_lcmp, i_dup, i_pop, i_dupx1, i_dup2, i_ifeq, i_ifne, i_iflt, i_ifge, i_ifgt, i_ifle, i_iceq, i_icne, i_iclt, i_icge, i_icgt, i_icle, i_ifnull, i_aceq, i_getI, i_getR, i_putI, i_putZ, i_putR, i_new, i_newarr, i_ald, i_lald, i_aald, i_alen, i_ast, i_zast, i_last, i_aast, i_aastL, i_cast, i_gste, i_ldcM, i_getC, i_acopy, i_dead, i_objinit, i_callV, i_callS, i_callI, i_iret, i_zret, i_aret, i_vret, i_throw, popN, pushO, lget, lset, isRf_ref, isRf_null, isRf_rf, isC1_int, isC1_ref, isC1_null, isC1_rf, true_and, and_true, List.length_cons, List.length_nil, Nat.reduceAdd, Nat.reduceLeDiff, hK_sI, hN_sI, hR_sI, hI_sI, hK_sR, hN_sR, hR_sR, hI_sR, kC_2, kC_3, kC_4, kC_5, kC_6, kC_7, kC_8, kC_9, kC_10, kC_11, kC_20, kC_21, kC_22, kC_23, i2_0, i1_1, i0_1, i1_0, bI_and, bI_0, Decidable.not_not, not_false_eq_true, not_true_eq_false, forall_const, false_implies, true_implies, hK_copy, hN_copy, hI_copy, hC_sI, hC_sR, hC_new, hK_new, hN_new, hI_new, hR_new, rf_some, rf_none, ex_ref, ex_null, ex_rf, nref_null, rf_null, Nat.reduceEqDiff, reduceCtorEq, false_and, and_false, if_false, if_true, ne_eq, kO_150, kO_151, kO_152, kO_170, kO_180, kO_190, Value.ref.injEq, exists_eq_left', false_or]
        intro x hx
        have nt : ¬ t = x := fun e => by rw [e, hx] at kt; cases kt
        have nw : ¬ w = x := fun e => by rw [e, hx] at w1; cases w1
        have no : ¬ o = x := fun e => by rw [e, hx] at o1; cases o1
        have nb : ¬ dR h 131 o = x := fun e => by rw [e, hx] at o3; cases o3
        have nc : ¬ c = x := fun e => by rw [e, hx] at c1; cases c1
        have nd : ¬ dR h 256 c = x := fun e => by rw [e, hx] at c3; cases c3
        have hE := htail_ext (h := h) (q := x) (dR h 131 o) (dR h 256 c) hx
        simp only [nt, nw, no, nb, nc, nd, kt, w1, w2, w3, o1, o2, o3, c1, c2, c3, i_mmax, i_mmin, i_pushI, i_pushN, i_pushL, i_iload, i_aload, i_istore, i_astore, i_iinc, i_iadd, i_isub, i_imul, i_iand, i_ior, i_ixor, i_ishl, i_ishr, i_iushr, i_idiv, i_i2l, i_lcmp, i_dup, i_pop, i_dupx1, i_dup2, i_ifeq, i_ifne, i_iflt, i_ifge, i_ifgt, i_ifle, i_iceq, i_icne, i_iclt, i_icge, i_icgt, i_icle, i_ifnull, i_aceq, i_getI, i_getR, i_putI, i_putZ, i_putR, i_new, i_newarr, i_ald, i_lald, i_aald, i_alen, i_ast, i_zast, i_last, i_aast, i_aastL, i_cast, i_gste, i_ldcM, i_getC, i_acopy, i_dead, i_objinit, i_callV, i_callS, i_callI, i_iret, i_zret, i_aret, i_vret, i_throw, popN, pushO, lget, lset, isRf_ref, isRf_null, isRf_rf, isC1_int, isC1_ref, isC1_null, isC1_rf, true_and, and_true, List.length_cons, List.length_nil, Nat.reduceAdd, Nat.reduceLeDiff, hK_sI, hN_sI, hR_sI, hI_sI, hK_sR, hN_sR, hR_sR, hI_sR, kC_2, kC_3, kC_4, kC_5, kC_6, kC_7, kC_8, kC_9, kC_10, kC_11, kC_20, kC_21, kC_22, kC_23, i2_0, i1_1, i0_1, i1_0, bI_and, bI_0, Decidable.not_not, not_false_eq_true, not_true_eq_false, forall_const, false_implies, true_implies, hK_copy, hN_copy, hI_copy, hC_sI, hC_sR, hC_new, hK_new, hN_new, hI_new, hR_new, rf_some, rf_none, ex_ref, ex_null, ex_rf, nref_null, rf_null, Nat.reduceEqDiff, reduceCtorEq, false_and, and_false, if_false, if_true, ne_eq, kO_150, kO_151, kO_152, kO_170, kO_180, kO_190, Value.ref.injEq, exists_eq_left', false_or]
        have e3 := (hE.1 t (by rw [kt]; decide)).2.2
        obtain ⟨-, b1, b2, b3, b4⟩ := htail_at h x (dR h 131 o) (dR h 256 c)
        have tMeH : tMe (htail h x (dR h 131 o) (dR h 256 c)) t x = tMeN (hI h 512 t 0) (hI h 513 t 0) (hI h 514 t 0) (hI h 515 t 0) (mX h (dR h 131 o)) (mY h (dR h 131 o)) (mX h (dR h 256 c)) (mY h (dR h 256 c)) := by
          show tMeN _ _ _ _ _ _ _ _ = _
          rw [(e3 512 0).1, (e3 513 0).1, (e3 514 0).1, (e3 515 0).1, b1, b2, b3, b4]
        have tAlH : tAl (htail h x (dR h 131 o) (dR h 256 c)) t x = tAlN (hI h 512 t 0) (hI h 513 t 0) (hI h 514 t 0) (hI h 515 t 0) (mX h (dR h 131 o)) (mY h (dR h 131 o)) (mX h (dR h 256 c)) (mY h (dR h 256 c)) := by
          show tAlN _ _ _ _ _ _ _ _ = _
          rw [(e3 512 0).1, (e3 513 0).1, (e3 514 0).1, (e3 515 0).1, b1, b2, b3, b4]
        refine ⟨fun e2 => ?_, fun e2 => ?_⟩
        · have := hp _ hE
          rw [show tHit h q w o (hI h 512 t 0) (hI h 513 t 0) (hI h 514 t 0) (hI h 515 t 0) ↔ tMeN (hI h 512 t 0) (hI h 513 t 0) (hI h 514 t 0) (hI h 515 t 0) (mX h (dR h 131 o)) (mY h (dR h 131 o)) (mX h (dR h 256 c)) (mY h (dR h 256 c)) from ⟨fun ⟨c', z1, z2⟩ => by rw [hc] at z1; cases z1; rw [if_neg e2] at z2; exact z2, fun z => ⟨c, hc, by rw [if_neg e2]; exact z⟩⟩] at this
          rw [← tMeH] at this
          exact this
        · have := hp _ hE
          rw [show tHit h q w o (hI h 512 t 0) (hI h 513 t 0) (hI h 514 t 0) (hI h 515 t 0) ↔ tAlN (hI h 512 t 0) (hI h 513 t 0) (hI h 514 t 0) (hI h 515 t 0) (mX h (dR h 131 o)) (mY h (dR h 131 o)) (mX h (dR h 256 c)) (mY h (dR h 256 c)) from ⟨fun ⟨c', z1, z2⟩ => by rw [hc] at z1; cases z1; rw [if_pos e2] at z2; exact z2, fun z => ⟨c, hc, by rw [if_pos e2]; exact z⟩⟩] at this
          rw [← tAlH] at this
          exact this
    · exact hT.elim
  · unfold T_X3_isTailMet at hT
    split at hT
    · exact ⟨Nat.le_of_ble_eq_true rfl, by simp [isC1_int, isC1_ref, isC1_null, isC1_rf]⟩
    · exact hT.elim
