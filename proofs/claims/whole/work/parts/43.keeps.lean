/-- one of the set comes ahead of panel x -/
def ahdH (h : hp_T) (a : Nat) (l x s : Int32) : Prop := ¬ x < 0 ∧ x < nI (pnN h a) ∧ ∃ i, i < pnN h a ∧ inS s i ∧ bAh h (pb h a i) (pb h a x.toNatClampNeg) l
def keepsA (A : Int32 → Int32 → Prop) : List Nat → Int32 → Prop
  | [], _ => True
  | x :: L, s => ¬ A (nI x) s ∧ keepsA A L (s &&& (1 <<< (nI x &&& 31) ^^^ -1))
theorem ordI_lt {L : List Nat} {i : Nat} (h : i < L.length) : ordI L i = nI L[i] := by unfold ordI; rw [List.getElem?_eq_getElem h]
theorem keepsA_drop {A : Int32 → Int32 → Prop} {L : List Nat} {j : Nat} (h : j < L.length) (s : Int32) : keepsA A (L.drop j) s ↔ ¬ A (ordI L j) s ∧ keepsA A (L.drop (j + 1)) (s &&& (1 <<< (ordI L j &&& 31) ^^^ -1)) := by
  rw [List.drop_eq_getElem_cons h, ordI_lt h]; exact Iff.rfl
def wp_X5_keepsAhead_0 (P : Option Value → hp_T → Prop) (X : String → hp_T → Prop) (K10 : KT) : KT :=
  i_aload 0 (i_getR 7 448 (i_callV 0 5 T_X3_allPanels noX (i_istore 1 (i_pushI 0 (i_istore 2 K10)))))
set_option maxRecDepth 20000 in
theorem go_X5_keepsAhead_0 {z : zT} {P : Option Value → hp_T → Prop} {X : String → hp_T → Prop} {K10 : KT} (hz : Cx z cX5_keepsAhead 4 "Panelry$Reading" "keepsAhead" 4 0 0) (hr : Rt z (some .boolean) P X 0 0) (h10 : Go z 0 0 10 K10) : Go z 0 0 0 (wp_X5_keepsAhead_0 P X K10) := 
  s_aload_n hz rfl dX5_keepsAhead_0 (fg_RX5_15 hz dX5_keepsAhead_1 (s_callV hz ct_X3_allPanels ⟨w163, w166, w38, by decide, by decide, by decide +kernel⟩ w164 w165 cls4 rfl rfl rfl rfl rfl rfl out_no dX5_keepsAhead_4
    (s_istore_n hz rfl rfl dX5_keepsAhead_7 (s_iconst hz rfl dX5_keepsAhead_8 (s_istore_n hz rfl rfl dX5_keepsAhead_9 h10)))))
def wp_X5_keepsAhead_10 (P : Option Value → hp_T → Prop) (X : String → hp_T → Prop) (K10 : KT) : KT :=
  i_iload 2 (i_aload 0 (i_getI 7 451 (i_icge (i_pushI 1 (i_zret P)) (i_aload 0 (i_iload 2 (i_callV 1 7 T_X5_panelAt noX (i_istore 3 (i_aload 0 (i_getR 7 448 (i_iload 3 (i_iload 1 (i_aload 0
    (i_getI 7 449 (i_callV 3 5 T_X3_hasOneAheadOf noX (i_ifeq (i_iload 1 (i_pushI 1 (i_iload 3 (i_ishl (i_pushI (-1) (i_ixor (i_iand (i_istore 1 (i_iinc 2 1 K10))))))))) (i_pushI 0 (i_zret P)))))))))))))))))
set_option maxRecDepth 20000 in
theorem go_X5_keepsAhead_10 {z : zT} {P : Option Value → hp_T → Prop} {X : String → hp_T → Prop} {K10 : KT} (hz : Cx z cX5_keepsAhead 4 "Panelry$Reading" "keepsAhead" 4 0 0) (hr : Rt z (some .boolean) P X 0 0) (h10 : Go z 0 0 10 K10) : Go z 0 0 10 (wp_X5_keepsAhead_10 P X K10) := 
  s_iload_n hz rfl dX5_keepsAhead_10 (s_aload_n hz rfl dX5_keepsAhead_11 (fg_RX5_42 hz dX5_keepsAhead_12 (s_icge hz (tgt := 56) rfl dX5_keepsAhead_15 (s_iconst hz rfl dX5_keepsAhead_56
    (s_zret hz hr rfl rfl dX5_keepsAhead_57)) (s_aload_n hz rfl dX5_keepsAhead_18 (s_iload_n hz rfl dX5_keepsAhead_19 (s_callV hz ct_X5_panelAt ⟨w575, w214, w49, by decide, by decide, by decide +kernel⟩ w212 w213 cls6 rfl rfl rfl rfl rfl rfl out_no dX5_keepsAhead_20
    (s_istore_n hz rfl rfl dX5_keepsAhead_23 (s_aload_n hz rfl dX5_keepsAhead_24 (fg_RX5_15 hz dX5_keepsAhead_25 (s_iload_n hz rfl dX5_keepsAhead_28 (s_iload_n hz rfl dX5_keepsAhead_29 (s_aload_n hz rfl dX5_keepsAhead_30
    (fg_RX5_19 hz dX5_keepsAhead_31 (s_callV hz ct_X3_hasOneAheadOf ⟨w576, w558, w38, by decide, by decide, by decide +kernel⟩ w556 w557 cls4 rfl rfl rfl rfl rfl rfl out_no dX5_keepsAhead_34
    (s_ifeq hz (tgt := 42) rfl dX5_keepsAhead_37 (s_iload_n hz rfl dX5_keepsAhead_42 (s_iconst hz rfl dX5_keepsAhead_43 (s_iload_n hz rfl dX5_keepsAhead_44 (s_ishl hz dX5_keepsAhead_45 (s_iconst hz rfl dX5_keepsAhead_46
    (s_ixor hz dX5_keepsAhead_47 (s_iand hz dX5_keepsAhead_48 (s_istore_n hz rfl rfl dX5_keepsAhead_49 (s_iinc hz rfl rfl dX5_keepsAhead_50 (s_goto hz (tgt := 10) rfl dX5_keepsAhead_53 h10))))))))))
    (s_iconst hz rfl dX5_keepsAhead_40 (s_zret hz hr rfl rfl dX5_keepsAhead_41)))))))))))))))))

def T_X5_keepsAhead : PT := fun av h P X => match av with
  | [.ref r] => (rdOK h r) ∧ (∃ L, (L.length ≤ 8 ∧ hI h 451 r 0 = nI L.length ∧ ∀ i, i < 8 → hI h 150 (dR h 450 r) i = ordI L i) ∧ P (some (.int (bI (keepsA (ahdH h (dR h 448 r) (hI h 449 r 0)) L (nI (2 ^ pnN h (dR h 448 r) - 1)))))) h)
  | _ => False
set_option maxRecDepth 20000 in
theorem ct_X5_keepsAhead : CT yX5_keepsAhead cX5_keepsAhead 4 (some .boolean) 4 0 0 T_X5_keepsAhead := by
  refine ct_ofE (by decide) (fun z av h P X hT hz hr => ?_) (fun av h P X hT => ?_)
  · unfold T_X5_keepsAhead at hT
    split at hT
    · rename_i r
      obtain ⟨hk, hp⟩ := hT
      obtain ⟨L, ⟨hL8, hLl, hLo⟩, hp⟩ := hp
      obtain ⟨⟨r1, r2, r3⟩, ⟨r4, r5, r6⟩, kA⟩ := id hk
      obtain ⟨k1, ⟨k2, k3, k4, k5, k6⟩, ⟨k7, k8, k9, k10, k11⟩, k12, k13⟩ := id kA
      have eN : lsz h (dR h 320 (dR h 448 r)) = pnN h (dR h 448 r) := rfl
      have eB : lsz h (dR h 321 (dR h 448 r)) = blN h (dR h 448 r) := rfl
      have eP : ∀ j, lel h (dR h 320 (dR h 448 r)) j = pn h (dR h 448 r) j := fun _ => rfl
      have eL : ∀ j, lel h (dR h 321 (dR h 448 r)) j = bl h (dR h 448 r) j := fun _ => rfl
      have eQ : ∀ j, dR h 384 (pn h (dR h 448 r) j) = pb h (dR h 448 r) j := fun _ => rfl
      have eR : ∀ j, dR h 131 (bl h (dR h 448 r) j) = bb h (dR h 448 r) j := fun _ => rfl
      have hloop := Go.loop (z := z) (cells := 0) (slots := 0) (pc := 10) (fun n ls st h' => ∃ j s o, j + n = L.length ∧ ls = [some (.ref r), some (.int s), some (.int (nI j)), o] ∧ st = [] ∧ h' = h ∧ (keepsA (ahdH h (dR h 448 r) (hI h 449 r 0)) (L.drop j) s ↔ keepsA (ahdH h (dR h 448 r) (hI h 449 r 0)) L (nI (2 ^ pnN h (dR h 448 r) - 1)))) (fun k => wp_X5_keepsAhead_10 P X k) (fun k hgo => go_X5_keepsAhead_10 hz hr hgo) (by
        rintro n ls st h' ⟨j, s, o, hj, rfl, rfl, rfl, hg⟩
        have hcl : (nI j).toNatClampNeg = j := nI_clamp (by omega)
        have hge : (nI L.length ≤ nI j) ↔ ¬ j < L.length := by rw [leI (by omega) (by omega)]; omega
        simp only [wp_X5_keepsAhead_0, wp_X5_keepsAhead_10, T_X3_allPanels, T_X5_panelAt, T_X3_hasOneAheadOf, i_mmax, i_mmin, i_pushI, i_pushN, i_pushL, i_iload, i_aload, i_istore, i_astore, i_iinc, i_iadd, i_isub, i_imul, i_iand, i_ior, i_ixor, i_ishl, i_ishr, i_iushr, i_idiv, i_i2l, i_lcmp, i_dup, i_pop, i_dupx1, i_dup2, i_ifeq, i_ifne, i_iflt, i_ifge, i_ifgt, i_ifle, i_iceq, i_icne, i_iclt, i_icge, i_icgt, i_icle, i_ifnull, i_aceq, i_getI, i_getR, i_putI, i_putZ, i_putR, i_new, i_newarr, i_ald, i_lald, i_aald, i_alen, i_ast, i_zast, i_last, i_aast, i_aastL, i_cast, i_gste, i_ldcM, i_getC, i_acopy, i_dead, i_objinit, i_callV, i_callS, i_callI, i_iret, i_zret, i_aret, i_vret, i_throw, popN, pushO, lget, lset, isRf_ref, isRf_null, isRf_rf, isC1_int, isC1_ref, isC1_null, isC1_rf, true_and, and_true, List.length_cons, List.length_nil, Nat.reduceAdd, Nat.reduceLeDiff, hK_sI, hN_sI, hR_sI, hI_sI, hK_sR, hN_sR, hR_sR, hI_sR, kC_2, kC_3, kC_4, kC_5, kC_6, kC_7, kC_8, kC_9, kC_10, kC_11, kC_20, kC_21, kC_22, kC_23, i2_0, i1_1, i0_1, i1_0, bI_and, bI_0, Decidable.not_not, not_false_eq_true, not_true_eq_false, forall_const, false_implies, true_implies, hK_copy, hN_copy, hI_copy, hC_sI, hC_sR, hC_new, hK_new, hN_new, hI_new, hR_new, rf_some, rf_none, ex_ref, ex_null, ex_rf, nref_null, rf_null, Nat.reduceEqDiff, reduceCtorEq, false_and, and_false, if_false, if_true, ne_eq, kO_150, kO_151, kO_152, kO_170, kO_180, kO_190, Value.ref.injEq, exists_eq_left', false_or, hk, r1, r2, hLl, hge]
        refine ⟨fun e => ?_, fun e => ?_⟩
        · rw [List.drop_eq_nil_of_le (by omega)] at hg
          rw [bI_t (hg.mp trivial)] at hp
          exact hp
        · have e8 : ¬ nI j < 0 ∧ nI j < 8 := ⟨nI_pos (by omega), nI_lt (b := 8) (by omega) (by decide)⟩
          rw [keepsA_drop e] at hg
          simp only [wp_X5_keepsAhead_0, wp_X5_keepsAhead_10, T_X3_allPanels, T_X5_panelAt, T_X3_hasOneAheadOf, i_mmax, i_mmin, i_pushI, i_pushN, i_pushL, i_iload, i_aload, i_istore, i_astore, i_iinc, i_iadd, i_isub, i_imul, i_iand, i_ior, i_ixor, i_ishl, i_ishr, i_iushr, i_idiv, i_i2l, i_lcmp, i_dup, i_pop, i_dupx1, i_dup2, i_ifeq, i_ifne, i_iflt, i_ifge, i_ifgt, i_ifle, i_iceq, i_icne, i_iclt, i_icge, i_icgt, i_icle, i_ifnull, i_aceq, i_getI, i_getR, i_putI, i_putZ, i_putR, i_new, i_newarr, i_ald, i_lald, i_aald, i_alen, i_ast, i_zast, i_last, i_aast, i_aastL, i_cast, i_gste, i_ldcM, i_getC, i_acopy, i_dead, i_objinit, i_callV, i_callS, i_callI, i_iret, i_zret, i_aret, i_vret, i_throw, popN, pushO, lget, lset, isRf_ref, isRf_null, isRf_rf, isC1_int, isC1_ref, isC1_null, isC1_rf, true_and, and_true, List.length_cons, List.length_nil, Nat.reduceAdd, Nat.reduceLeDiff, hK_sI, hN_sI, hR_sI, hI_sI, hK_sR, hN_sR, hR_sR, hI_sR, kC_2, kC_3, kC_4, kC_5, kC_6, kC_7, kC_8, kC_9, kC_10, kC_11, kC_20, kC_21, kC_22, kC_23, i2_0, i1_1, i0_1, i1_0, bI_and, bI_0, Decidable.not_not, not_false_eq_true, not_true_eq_false, forall_const, false_implies, true_implies, hK_copy, hN_copy, hI_copy, hC_sI, hC_sR, hC_new, hK_new, hN_new, hI_new, hR_new, rf_some, rf_none, ex_ref, ex_null, ex_rf, nref_null, rf_null, Nat.reduceEqDiff, reduceCtorEq, false_and, and_false, if_false, if_true, ne_eq, kO_150, kO_151, kO_152, kO_170, kO_180, kO_190, Value.ref.injEq, exists_eq_left', false_or, e8, hcl, hLo j (by omega), kA, r1, r2]
          refine ⟨by rw [k1]; rfl, fun e2 => ?_, fun e2 => ?_⟩
          · have e3 : ¬ ahdH h' (dR h' 448 r) (hI h' 449 r 0) (ordI L j) s := e2
            exact ⟨n - 1, by omega, j + 1, _, _, by omega, by rw [nI_1], by rw [← hg]; exact ⟨fun z => ⟨e3, z⟩, fun z => z.2⟩⟩
          · have e3 : ¬¬ ahdH h' (dR h' 448 r) (hI h' 449 r 0) (ordI L j) s := e2
            rw [bI_f (fun z => e3 (hg.mpr z).1)] at hp
            exact hp)
      refine ⟨_, go_X5_keepsAhead_0 hz hr hloop, ?_⟩
      show wp_X5_keepsAhead_0 P X _ [some (.ref r), none, none, none] [] h
      simp only [wp_X5_keepsAhead_0, wp_X5_keepsAhead_10, T_X3_allPanels, T_X5_panelAt, T_X3_hasOneAheadOf, i_mmax, i_mmin, i_pushI, i_pushN, i_pushL, i_iload, i_aload, i_istore, i_astore, i_iinc, i_iadd, i_isub, i_imul, i_iand, i_ior, i_ixor, i_ishl, i_ishr, i_iushr, i_idiv, i_i2l, i_lcmp, i_dup, i_pop, i_dupx1, i_dup2, i_ifeq, i_ifne, i_iflt, i_ifge, i_ifgt, i_ifle, i_iceq, i_icne, i_iclt, i_icge, i_icgt, i_icle, i_ifnull, i_aceq, i_getI, i_getR, i_putI, i_putZ, i_putR, i_new, i_newarr, i_ald, i_lald, i_aald, i_alen, i_ast, i_zast, i_last, i_aast, i_aastL, i_cast, i_gste, i_ldcM, i_getC, i_acopy, i_dead, i_objinit, i_callV, i_callS, i_callI, i_iret, i_zret, i_aret, i_vret, i_throw, popN, pushO, lget, lset, isRf_ref, isRf_null, isRf_rf, isC1_int, isC1_ref, isC1_null, isC1_rf, true_and, and_true, List.length_cons, List.length_nil, Nat.reduceAdd, Nat.reduceLeDiff, hK_sI, hN_sI, hR_sI, hI_sI, hK_sR, hN_sR, hR_sR, hI_sR, kC_2, kC_3, kC_4, kC_5, kC_6, kC_7, kC_8, kC_9, kC_10, kC_11, kC_20, kC_21, kC_22, kC_23, i2_0, i1_1, i0_1, i1_0, bI_and, bI_0, Decidable.not_not, not_false_eq_true, not_true_eq_false, forall_const, false_implies, true_implies, hK_copy, hN_copy, hI_copy, hC_sI, hC_sR, hC_new, hK_new, hN_new, hI_new, hR_new, rf_some, rf_none, ex_ref, ex_null, ex_rf, nref_null, rf_null, Nat.reduceEqDiff, reduceCtorEq, false_and, and_false, if_false, if_true, ne_eq, kO_150, kO_151, kO_152, kO_170, kO_180, kO_190, Value.ref.injEq, exists_eq_left', false_or, hk, r1, r2, kA, k1]
      exact ⟨L.length, 0, _, none, by omega, rfl, Iff.rfl⟩
    · exact hT.elim
  · unfold T_X5_keepsAhead at hT
    split at hT
    · exact ⟨Nat.le_of_ble_eq_true rfl, by simp [isC1_int, isC1_ref, isC1_null, isC1_rf]⟩
    · exact hT.elim
theorem rdOf_at {h h' : hp_T} {a r : Nat} {l : Int32} (k : rdOf h h' a l r) {j : Nat} (hj : j < 8) : (if ¬ nI j < 0 ∧ nI j < 8 then hI h' 150 (dR h' 450 r) (nI j).toNatClampNeg else -1) = ordI (rdG h a l).1 j := by
  rw [if_pos ⟨nI_pos (by omega), nI_lt (b := 8) (by omega) (by decide)⟩, nI_clamp (by omega)]
  exact k.2.2.2.2.2.2 j hj
/-- a reading stays a reading when cells come -/
theorem rdOK.ext {h h' : hp_T} (e : Ext h h') {r : Nat} (k : rdOK h r) : rdOK h' r ∧ dR h' 450 r = dR h 450 r := by
  obtain ⟨⟨r1, r2, r3⟩, ⟨r4, r5, r6⟩, kA⟩ := k
  have l1 : hK h r ≠ 0 := by rw [r1]; decide
  obtain ⟨e1, e2, e3⟩ := e.1 r l1
  have d8 := e.dR (f := 448) l1
  have d5 := e.dR (f := 450) l1
  exact ⟨⟨⟨e1.trans r1, by rw [d8, (e3 _ _).2]; exact r2, by rw [(e3 _ _).1]; exact r3⟩, ⟨by rw [d5, (e3 _ _).2]; exact r4, by rw [d5]; exact e.K r5 (by decide), by rw [d5]; exact ((e.1 _ (by rw [r5]; decide)).2.1).trans r6⟩, by rw [d8]; exact (kA.ext e).1⟩, d5⟩
