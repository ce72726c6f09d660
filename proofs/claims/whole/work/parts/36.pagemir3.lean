def wp_X3_mirrored_16 (P : Option Value → hp_T → Prop) (X : String → hp_T → Prop) (K22 : KT) : KT :=
  i_callI 1 T_X3_init noX (i_astore 1 (i_pushI 0 (i_istore 2 K22)))
set_option maxRecDepth 20000 in
theorem go_X3_mirrored_16 {z : zT} {C S : Nat} {P : Option Value → hp_T → Prop} {X : String → hp_T → Prop} {K22 : KT} (hz : Cx z cX3_mirrored 3 "Panelry$Page" "mirrored" 8 420 4800) (hr : Rt z (some (.object "Panelry$Page")) P X 420 4800) (hC : C + 2 ≤ 420) (hS : S + 6 ≤ 4800) (h22 : Go z (C + 2) (S + 6) 22 K22) : Go z C S 16 (wp_X3_mirrored_16 P X K22) := 
  s_callI hz ct_X3_init ⟨w589, w308, w38, by decide, by decide, by decide +kernel⟩ w307 rfl rfl rfl (ble_of (by omega)) (ble_of (by omega)) out_no dX3_mirrored_16 (s_astore_n hz rfl rfl dX3_mirrored_19
    (s_iconst hz rfl dX3_mirrored_20 (s_istore_n hz rfl rfl dX3_mirrored_21 (Go.widen _ _ h22 (by omega) (by omega)))))
def wp_X3_mirrored_0 (P : Option Value → hp_T → Prop) (X : String → hp_T → Prop) (K22 : KT) : KT :=
  i_new 5 (i_dup (i_aload 0 (i_getI 5 322 (i_ifne (i_pushI 0 (wp_X3_mirrored_16 P X K22)) (i_pushI 1 (wp_X3_mirrored_16 P X K22))))))
set_option maxRecDepth 20000 in
theorem go_X3_mirrored_0 {z : zT} {P : Option Value → hp_T → Prop} {X : String → hp_T → Prop} {K22 : KT} (hz : Cx z cX3_mirrored 3 "Panelry$Page" "mirrored" 8 420 4800) (hr : Rt z (some (.object "Panelry$Page")) P X 420 4800) (h22 : Go z (3) (11) 22 K22) : Go z 0 0 0 (wp_X3_mirrored_0 P X K22) := 
  s_new hz kO_5 cls4 w588 w305 w38 rfl rfl dX3_mirrored_0 (s_dup hz dX3_mirrored_3 (s_aload_n hz rfl dX3_mirrored_4 (fg_RX3_21 hz dX3_mirrored_5 (s_ifne hz (tgt := 15) rfl dX3_mirrored_8
    (s_iconst hz rfl dX3_mirrored_15 (go_X3_mirrored_16 hz hr (by omega) (by omega) (Go.widen _ _ h22 (by omega) (by omega)))) (s_iconst hz rfl dX3_mirrored_11 (s_goto hz (tgt := 16) rfl dX3_mirrored_12
    (go_X3_mirrored_16 hz hr (by omega) (by omega) (Go.widen _ _ h22 (by omega) (by omega)))))))))
def wp_X3_mirrored_22 (P : Option Value → hp_T → Prop) (X : String → hp_T → Prop) (K22 : KT) (K63 : KT) : KT :=
  i_iload 2 (i_aload 0 (i_getR 5 320 (i_callV 0 1 T_Jx4a65c_size_8abf5 noX (i_icge (i_pushI 0 (i_istore 2 K63)) (i_aload 1 (i_getR 5 320 (i_aload 0 (i_getR 5 320 (i_iload 2 (i_callV 1 1 T_Jx4a65c_get_915e3 noX
    (i_cast 6 (i_callV 0 6 T_X4_mirrored noX (i_callV 1 1 T_Jx4a65c_add_9ea2d noX (i_pop (i_iinc 2 1 K22)))))))))))))))
set_option maxRecDepth 20000 in
theorem go_X3_mirrored_22 {z : zT} {C S : Nat} {P : Option Value → hp_T → Prop} {X : String → hp_T → Prop} {K22 : KT} {K63 : KT} (hz : Cx z cX3_mirrored 3 "Panelry$Page" "mirrored" 8 420 4800) (hr : Rt z (some (.object "Panelry$Page")) P X 420 4800) (hC : C + 41 ≤ 420) (hS : S + 300 ≤ 4800) (h22 : Go z (C + 41) (S + 300) 22 K22) (h63 : Go z (C + 0) (S + 0) 63 K63) : Go z C S 22 (wp_X3_mirrored_22 P X K22 K63) := 
  s_iload_n hz rfl dX3_mirrored_22 (s_aload_n hz rfl dX3_mirrored_23 (fg_RX3_12 hz dX3_mirrored_24 (s_callV hz ct_Jx4a65c_size_8abf5 ⟨w167, w115, w32, by decide, by decide, by decide +kernel⟩ w113 w114 cls0 rfl rfl rfl rfl
    (ble_of (by omega)) (ble_of (by omega)) out_no dX3_mirrored_27 (s_icge hz (tgt := 61) rfl dX3_mirrored_30 (s_iconst hz rfl dX3_mirrored_61 (s_istore_n hz rfl rfl dX3_mirrored_62 (Go.widen _ _ h63
    (by omega) (by omega)))) (s_aload_n hz rfl dX3_mirrored_33 (fg_RX3_12 hz dX3_mirrored_34 (s_aload_n hz rfl dX3_mirrored_37 (fg_RX3_12 hz dX3_mirrored_38 (s_iload_n hz rfl dX3_mirrored_41
    (s_callV hz ct_Jx4a65c_get_915e3 ⟨w215, w119, w32, by decide, by decide, by decide +kernel⟩ w117 w118 cls0 rfl rfl rfl rfl (ble_of (by omega)) (ble_of (by omega)) out_no dX3_mirrored_42
    (s_cast hz kO_6 rfl cls5 w216 dX3_mirrored_45 (s_callV hz ct_X4_mirrored ⟨w590, w593, w48, by decide, by decide, by decide +kernel⟩ w591 w592 cls5 rfl rfl rfl rfl (ble_of (by omega))
    (ble_of (by omega)) out_no dX3_mirrored_48 (s_callV hz ct_Jx4a65c_add_9ea2d ⟨w630, w339, w32, by decide, by decide, by decide +kernel⟩ w337 w338 cls0 rfl rfl rfl rfl (ble_of (by omega))
    (ble_of (by omega)) out_no dX3_mirrored_51 (s_pop hz dX3_mirrored_54 (s_iinc hz rfl rfl dX3_mirrored_55 (s_goto hz (tgt := 22) rfl dX3_mirrored_58 (Go.widen _ _ h22 (by omega) (by omega))))))))))))))))))
def wp_X3_mirrored_63 (P : Option Value → hp_T → Prop) (X : String → hp_T → Prop) (K63 : KT) : KT :=
  i_iload 2 (i_aload 0 (i_getR 5 321 (i_callV 0 1 T_Jx4a65c_size_8abf5 noX (i_icge (i_aload 1 (i_aret P)) (i_aload 1 (i_getR 5 321 (i_aload 0 (i_getR 5 321 (i_iload 2 (i_callV 1 1 T_Jx4a65c_get_915e3 noX
    (i_cast 2 (i_callV 0 2 T_X0_mirrored noX (i_callV 1 1 T_Jx4a65c_add_9ea2d noX (i_pop (i_iinc 2 1 K63)))))))))))))))
set_option maxRecDepth 20000 in
theorem go_X3_mirrored_63 {z : zT} {C S : Nat} {P : Option Value → hp_T → Prop} {X : String → hp_T → Prop} {K63 : KT} (hz : Cx z cX3_mirrored 3 "Panelry$Page" "mirrored" 8 420 4800) (hr : Rt z (some (.object "Panelry$Page")) P X 420 4800) (hC : C + 3 ≤ 420) (hS : S + 108 ≤ 4800) (h63 : Go z (C + 3) (S + 108) 63 K63) : Go z C S 63 (wp_X3_mirrored_63 P X K63) := 
  s_iload_n hz rfl dX3_mirrored_63 (s_aload_n hz rfl dX3_mirrored_64 (fg_RX3_18 hz dX3_mirrored_65 (s_callV hz ct_Jx4a65c_size_8abf5 ⟨w167, w115, w32, by decide, by decide, by decide +kernel⟩ w113 w114 cls0 rfl rfl rfl rfl
    (ble_of (by omega)) (ble_of (by omega)) out_no dX3_mirrored_68 (s_icge hz (tgt := 102) rfl dX3_mirrored_71 (s_aload_n hz rfl dX3_mirrored_102 (s_aret hz hr (Or.inl ⟨_, rfl⟩) (ble_of (by omega))
    (ble_of (by omega)) dX3_mirrored_103)) (s_aload_n hz rfl dX3_mirrored_74 (fg_RX3_18 hz dX3_mirrored_75 (s_aload_n hz rfl dX3_mirrored_78 (fg_RX3_18 hz dX3_mirrored_79 (s_iload_n hz rfl dX3_mirrored_82
    (s_callV hz ct_Jx4a65c_get_915e3 ⟨w215, w119, w32, by decide, by decide, by decide +kernel⟩ w117 w118 cls0 rfl rfl rfl rfl (ble_of (by omega)) (ble_of (by omega)) out_no dX3_mirrored_83
    (s_cast hz kO_2 rfl cls1 w631 dX3_mirrored_86 (s_callV hz ct_X0_mirrored ⟨w632, w635, w52, by decide, by decide, by decide +kernel⟩ w633 w634 cls1 rfl rfl rfl rfl (ble_of (by omega))
    (ble_of (by omega)) out_no dX3_mirrored_89 (s_callV hz ct_Jx4a65c_add_9ea2d ⟨w630, w339, w32, by decide, by decide, by decide +kernel⟩ w337 w338 cls0 rfl rfl rfl rfl (ble_of (by omega))
    (ble_of (by omega)) out_no dX3_mirrored_92 (s_pop hz dX3_mirrored_95 (s_iinc hz rfl rfl dX3_mirrored_96 (s_goto hz (tgt := 63) rfl dX3_mirrored_99 (Go.widen _ _ h63 (by omega) (by omega))))))))))))))))))

def T_X3_mirrored : PT := fun av h P X => match av with
  | [.ref a] => (pgOK h a ∧ hK h (hC h 0) = 190 ∧ hN h (hC h 0) = 0) ∧ ∀ h' q, Ext h h' → pgMir h h' a q (pnN h a) (blN h a) → pgInj h h' q (pnN h a) (blN h a) → P (some (.ref q)) h'
  | _ => False
set_option maxRecDepth 20000 in
theorem ct_X3_mirrored : CT yX3_mirrored cX3_mirrored 3 (some (.object "Panelry$Page")) 8 420 4800 T_X3_mirrored := by
  refine ct_ofE (by decide) (fun z av h P X hT hz hr => ?_) (fun av h P X hT => ?_)
  · unfold T_X3_mirrored at hT
    split at hT
    · rename_i a
      obtain ⟨⟨kA, kC0⟩, hp⟩ := hT
      have l2 := Go.loopA (z := z) (pc := 63) (fun i => 331 + 3 * i) (fun i => 2411 + 108 * i) 20 (fun i ls st h' => ∃ q, ls = [some (.ref a), some (.ref q), some (.int (nI i))] ∧ st = [] ∧ Ext h h' ∧ pgMir h h' a q (pnN h a) i ∧ pgInj h h' q (pnN h a) i ∧ i ≤ blN h a) (fun k => wp_X3_mirrored_63 P X k) (fun i k hi hgo => go_X3_mirrored_63 hz hr (by omega) (by omega) (Go.widen _ _ hgo (by omega) (by omega))) (by
        rintro i hi ls st h' ⟨q, rfl, rfl, hE, hM, hJ, hin⟩
        obtain ⟨kA', ⟨p1, p2, p3, p4, p5, p6, p7, p8⟩⟩ := kA.ext hE
        obtain ⟨k1, ⟨k2, k3, k4, k5, k6⟩, ⟨k7, k8, k9, k10, k11⟩, k12, k13⟩ := id kA'
        have eN : lsz h' (dR h' 320 a) = pnN h' a := rfl
        have eB : lsz h' (dR h' 321 a) = blN h' a := rfl
        have eP : ∀ j, lel h' (dR h' 320 a) j = pn h' a j := fun _ => rfl
        have eL : ∀ j, lel h' (dR h' 321 a) j = bl h' a j := fun _ => rfl
        have eQ : ∀ j, dR h' 384 (pn h' a j) = pb h' a j := fun _ => rfl
        have eR : ∀ j, dR h' 131 (bl h' a j) = bb h' a j := fun _ => rfl
        have hge : (nI (blN h' a) ≤ nI i) ↔ ¬ i < blN h' a := by rw [leI (by omega) (by omega)]; omega
        obtain ⟨⟨a1, a2, a3, a4, a5⟩, ⟨b1, b2, b3, b4⟩, ⟨c1, c2, c3, c4⟩⟩ := id hM
        have hcl : (nI i).toNatClampNeg = i := nI_clamp (by omega)
        simp only [wp_X3_mirrored_16, wp_X3_mirrored_0, wp_X3_mirrored_22, wp_X3_mirrored_63, T_X3_init, T_Jx4a65c_size_8abf5, T_Jx4a65c_get_915e3, T_X4_mirrored, T_Jx4a65c_add_9ea2d, T_X0_mirrored, i_mmax, i_mmin, i_pushI, i_pushN, i_pushL, i_iload, i_aload, i_istore, i_astore, i_iinc, i_iadd, i_isub, i_imul, i_iand, i_ior, i_ixor, i_ishl, i_ishr, i_iushr, i_idiv, i_i2l, i_lcmp, i_dup, i_pop, i_dupx1, i_dup2, i_ifeq, i_ifne, i_iflt, i_ifge, i_ifgt, i_ifle, i_iceq, i_icne, i_iclt, i_icge, i_icgt, i_icle, i_ifnull, i_aceq, i_getI, i_getR, i_putI, i_putZ, i_putR, i_new, i_newarr, i_ald, i_lald, i_aald, i_alen, i_ast, i_zast, i_last, i_aast, i_aastL, i_cast, i_gste, i_ldcM, i_getC, i_acopy, i_dead, i_objinit, i_callV, i_callS, i_callI, i_iret, i_zret, i_aret, i_vret, i_throw, popN, pushO, lget, lset, isRf_ref, isRf_null, isRf_rf, isC1_int, isC1_ref, isC1_null, isC1_rf, true_and, and_true, List.length_cons, List.length_nil, Nat.reduceAdd, Nat.reduceLeDiff, hK_sI, hN_sI, hR_sI, hI_sI, hK_sR, hN_sR, hR_sR, hI_sR, kC_2, kC_3, kC_4, kC_5, kC_6, kC_7, kC_8, kC_9, kC_10, kC_11, kC_20, kC_21, kC_22, kC_23, i2_0, i1_1, i0_1, i1_0, bI_and, bI_0, Decidable.not_not, not_false_eq_true, not_true_eq_false, forall_const, false_implies, true_implies, hK_copy, hN_copy, hI_copy, hC_sI, hC_sR, hC_new, hK_new, hN_new, hI_new, hR_new, rf_some, rf_none, ex_ref, ex_null, ex_rf, nref_null, rf_null, Nat.reduceEqDiff, reduceCtorEq, false_and, and_false, if_false, if_true, ne_eq, kO_150, kO_151, kO_152, kO_170, kO_180, kO_190, Value.ref.injEq, exists_eq_left', false_or, k1, k2, k3, k4, k7, k8, k9, eN, eB, eP, eL, eQ, eR, hge, hcl, a2, c1, c2]
        refine ⟨fun e => ?_, fun e => ?_⟩
        · have : i = blN h a := by omega
          subst this
          exact hp h' q hE hM hJ
        · obtain ⟨o1, o2, o3⟩ := k11 i e
          rw [eR] at o2 o3
          simp only [wp_X3_mirrored_16, wp_X3_mirrored_0, wp_X3_mirrored_22, wp_X3_mirrored_63, T_X3_init, T_Jx4a65c_size_8abf5, T_Jx4a65c_get_915e3, T_X4_mirrored, T_Jx4a65c_add_9ea2d, T_X0_mirrored, i_mmax, i_mmin, i_pushI, i_pushN, i_pushL, i_iload, i_aload, i_istore, i_astore, i_iinc, i_iadd, i_isub, i_imul, i_iand, i_ior, i_ixor, i_ishl, i_ishr, i_iushr, i_idiv, i_i2l, i_lcmp, i_dup, i_pop, i_dupx1, i_dup2, i_ifeq, i_ifne, i_iflt, i_ifge, i_ifgt, i_ifle, i_iceq, i_icne, i_iclt, i_icge, i_icgt, i_icle, i_ifnull, i_aceq, i_getI, i_getR, i_putI, i_putZ, i_putR, i_new, i_newarr, i_ald, i_lald, i_aald, i_alen, i_ast, i_zast, i_last, i_aast, i_aastL, i_cast, i_gste, i_ldcM, i_getC, i_acopy, i_dead, i_objinit, i_callV, i_callS, i_callI, i_iret, i_zret, i_aret, i_vret, i_throw, popN, pushO, lget, lset, isRf_ref, isRf_null, isRf_rf, isC1_int, isC1_ref, isC1_null, isC1_rf, true_and, and_true, List.length_cons, List.length_nil, Nat.reduceAdd, Nat.reduceLeDiff, hK_sI, hN_sI, hR_sI, hI_sI, hK_sR, hN_sR, hR_sR, hI_sR, kC_2, kC_3, kC_4, kC_5, kC_6, kC_7, kC_8, kC_9, kC_10, kC_11, kC_20, kC_21, kC_22, kC_23, i2_0, i1_1, i0_1, i1_0, bI_and, bI_0, Decidable.not_not, not_false_eq_true, not_true_eq_false, forall_const, false_implies, true_implies, hK_copy, hN_copy, hI_copy, hC_sI, hC_sR, hC_new, hK_new, hN_new, hI_new, hR_new, rf_some, rf_none, ex_ref, ex_null, ex_rf, nref_null, rf_null, Nat.reduceEqDiff, reduceCtorEq, false_and, and_false, if_false, if_true, ne_eq, kO_150, kO_151, kO_152, kO_170, kO_180, kO_190, Value.ref.injEq, exists_eq_left', false_or, o1, o2, o3]
          refine ⟨⟨nI_pos (by omega), (ltI (by omega) (by omega)).mpr e⟩, fun q1 hq1 q2 hq2 hne => ?_⟩
          have hb := balloon_new (x := 60 - (hI h' 192 (bb h' a i) 0 + hI h' 194 (bb h' a i) 0)) (y := hI h' 193 (bb h' a i) 0) (w := hI h' 194 (bb h' a i) 0) (hh := hI h' 195 (bb h' a i) 0) (n := hI h' 128 (bl h' a i) 0) (f := hI h' 129 (bl h' a i) 0) (l := hI h' 130 (bl h' a i) 0) hq1 hq2 hne
          generalize hballoon (hbox (hnew h' q1 2 0) q2 (60 - (hI h' 192 (bb h' a i) 0 + hI h' 194 (bb h' a i) 0)) (hI h' 193 (bb h' a i) 0) (hI h' 194 (bb h' a i) 0) (hI h' 195 (bb h' a i) 0)) q1 q2 (hI h' 128 (bl h' a i) 0) (hI h' 129 (bl h' a i) 0) (hI h' 130 (bl h' a i) 0) = G at hb ⊢
          obtain ⟨f1, f2, f3, f4, f5, f6⟩ := hb
          have hM2 := hM.ext f1
          have kbl : blOK h (bl h a i) := kA.2.2.1.2.2.2.2 i (by omega)
          have hmm : bkMir h' G (bl h' a i) q1 := ⟨f2, f3, f4, f5, f6⟩
          rw [p4] at hmm
          have hmm2 := hmm.old hE kbl
          have hd : dR G 321 q = dR h' 321 q := (f1.o q (by rw [a2]; rfl)).dR 321
          obtain ⟨m1, m2, m3, m4⟩ := hM2.2.2
          rw [hd] at m2 m3
          refine ⟨by rw [m2]; rfl, ⟨m3.2.1, by have := m3.2.2.1; omega, by rw [f2.1]; simp [objK]⟩, fun h2 hL => ?_⟩
          rw [← hd] at hL
          obtain ⟨z1, z2⟩ := hM2.addB (hE.trans f1) (by omega) hmm2 hL
          have hJ2 := (hJ.ext hM f1).addB hM2 (by omega) f2.1 (fun j hj => by
            rw [(f1.o q (by rw [a2]; rfl)).dR 321, (c3.ext f1).2]
            exact fun e => by have := (c4 j hj).1.1; rw [e, hq1] at this; cases this) (hE.fresh hq1) hL
          exact ⟨by omega, q, by rw [nI_1], z2, z1, hJ2, by omega⟩) 0 (Nat.zero_le _)
      have l1 := Go.loopA (z := z) (pc := 22) (fun i => 3 + 41 * i) (fun i => 11 + 300 * i) 8 (fun i ls st h' => ∃ q, ls = [some (.ref a), some (.ref q), some (.int (nI i))] ∧ st = [] ∧ Ext h h' ∧ pgMir h h' a q i 0 ∧ pgInj h h' q i 0 ∧ i ≤ pnN h a) (fun k => wp_X3_mirrored_22 P X k ((fun i ls st h' => ∃ q, ls = [some (.ref a), some (.ref q), some (.int (nI i))] ∧ st = [] ∧ Ext h h' ∧ pgMir h h' a q (pnN h a) i ∧ pgInj h h' q (pnN h a) i ∧ i ≤ blN h a) 0)) (fun i k hi hgo => go_X3_mirrored_22 hz hr (by omega) (by omega) (Go.widen _ _ hgo (by omega) (by omega)) (Go.widen _ _ l2 (by omega) (by omega))) (by
        rintro i hi ls st h' ⟨q, rfl, rfl, hE, hM, hJ, hin⟩
        obtain ⟨kA', ⟨p1, p2, p3, p4, p5, p6, p7, p8⟩⟩ := kA.ext hE
        obtain ⟨k1, ⟨k2, k3, k4, k5, k6⟩, ⟨k7, k8, k9, k10, k11⟩, k12, k13⟩ := id kA'
        have eN : lsz h' (dR h' 320 a) = pnN h' a := rfl
        have eB : lsz h' (dR h' 321 a) = blN h' a := rfl
        have eP : ∀ j, lel h' (dR h' 320 a) j = pn h' a j := fun _ => rfl
        have eL : ∀ j, lel h' (dR h' 321 a) j = bl h' a j := fun _ => rfl
        have eQ : ∀ j, dR h' 384 (pn h' a j) = pb h' a j := fun _ => rfl
        have eR : ∀ j, dR h' 131 (bl h' a j) = bb h' a j := fun _ => rfl
        have hge : (nI (pnN h' a) ≤ nI i) ↔ ¬ i < pnN h' a := by rw [leI (by omega) (by omega)]; omega
        obtain ⟨⟨a1, a2, a3, a4, a5⟩, ⟨b1, b2, b3, b4⟩, ⟨c1, c2, c3, c4⟩⟩ := id hM
        have hcl : (nI i).toNatClampNeg = i := nI_clamp (by omega)
        simp only [wp_X3_mirrored_16, wp_X3_mirrored_0, wp_X3_mirrored_22, wp_X3_mirrored_63, T_X3_init, T_Jx4a65c_size_8abf5, T_Jx4a65c_get_915e3, T_X4_mirrored, T_Jx4a65c_add_9ea2d, T_X0_mirrored, i_mmax, i_mmin, i_pushI, i_pushN, i_pushL, i_iload, i_aload, i_istore, i_astore, i_iinc, i_iadd, i_isub, i_imul, i_iand, i_ior, i_ixor, i_ishl, i_ishr, i_iushr, i_idiv, i_i2l, i_lcmp, i_dup, i_pop, i_dupx1, i_dup2, i_ifeq, i_ifne, i_iflt, i_ifge, i_ifgt, i_ifle, i_iceq, i_icne, i_iclt, i_icge, i_icgt, i_icle, i_ifnull, i_aceq, i_getI, i_getR, i_putI, i_putZ, i_putR, i_new, i_newarr, i_ald, i_lald, i_aald, i_alen, i_ast, i_zast, i_last, i_aast, i_aastL, i_cast, i_gste, i_ldcM, i_getC, i_acopy, i_dead, i_objinit, i_callV, i_callS, i_callI, i_iret, i_zret, i_aret, i_vret, i_throw, popN, pushO, lget, lset, isRf_ref, isRf_null, isRf_rf, isC1_int, isC1_ref, isC1_null, isC1_rf, true_and, and_true, List.length_cons, List.length_nil, Nat.reduceAdd, Nat.reduceLeDiff, hK_sI, hN_sI, hR_sI, hI_sI, hK_sR, hN_sR, hR_sR, hI_sR, kC_2, kC_3, kC_4, kC_5, kC_6, kC_7, kC_8, kC_9, kC_10, kC_11, kC_20, kC_21, kC_22, kC_23, i2_0, i1_1, i0_1, i1_0, bI_and, bI_0, Decidable.not_not, not_false_eq_true, not_true_eq_false, forall_const, false_implies, true_implies, hK_copy, hN_copy, hI_copy, hC_sI, hC_sR, hC_new, hK_new, hN_new, hI_new, hR_new, rf_some, rf_none, ex_ref, ex_null, ex_rf, nref_null, rf_null, Nat.reduceEqDiff, reduceCtorEq, false_and, and_false, if_false, if_true, ne_eq, kO_150, kO_151, kO_152, kO_170, kO_180, kO_190, Value.ref.injEq, exists_eq_left', false_or, k1, k2, k3, k4, k7, k8, k9, eN, eB, eP, eL, eQ, eR, hge, hcl, a2, b1, b2]
        refine ⟨fun e => ?_, fun e => ?_⟩
        · have : i = pnN h a := by omega
          subst this
          exact ⟨q, rfl, hE, hM, hJ, Nat.zero_le _⟩
        · have o1 := k6 i e
          have o2 := o1.1.1
          simp only [wp_X3_mirrored_16, wp_X3_mirrored_0, wp_X3_mirrored_22, wp_X3_mirrored_63, T_X3_init, T_Jx4a65c_size_8abf5, T_Jx4a65c_get_915e3, T_X4_mirrored, T_Jx4a65c_add_9ea2d, T_X0_mirrored, i_mmax, i_mmin, i_pushI, i_pushN, i_pushL, i_iload, i_aload, i_istore, i_astore, i_iinc, i_iadd, i_isub, i_imul, i_iand, i_ior, i_ixor, i_ishl, i_ishr, i_iushr, i_idiv, i_i2l, i_lcmp, i_dup, i_pop, i_dupx1, i_dup2, i_ifeq, i_ifne, i_iflt, i_ifge, i_ifgt, i_ifle, i_iceq, i_icne, i_iclt, i_icge, i_icgt, i_icle, i_ifnull, i_aceq, i_getI, i_getR, i_putI, i_putZ, i_putR, i_new, i_newarr, i_ald, i_lald, i_aald, i_alen, i_ast, i_zast, i_last, i_aast, i_aastL, i_cast, i_gste, i_ldcM, i_getC, i_acopy, i_dead, i_objinit, i_callV, i_callS, i_callI, i_iret, i_zret, i_aret, i_vret, i_throw, popN, pushO, lget, lset, isRf_ref, isRf_null, isRf_rf, isC1_int, isC1_ref, isC1_null, isC1_rf, true_and, and_true, List.length_cons, List.length_nil, Nat.reduceAdd, Nat.reduceLeDiff, hK_sI, hN_sI, hR_sI, hI_sI, hK_sR, hN_sR, hR_sR, hI_sR, kC_2, kC_3, kC_4, kC_5, kC_6, kC_7, kC_8, kC_9, kC_10, kC_11, kC_20, kC_21, kC_22, kC_23, i2_0, i1_1, i0_1, i1_0, bI_and, bI_0, Decidable.not_not, not_false_eq_true, not_true_eq_false, forall_const, false_implies, true_implies, hK_copy, hN_copy, hI_copy, hC_sI, hC_sR, hC_new, hK_new, hN_new, hI_new, hR_new, rf_some, rf_none, ex_ref, ex_null, ex_rf, nref_null, rf_null, Nat.reduceEqDiff, reduceCtorEq, false_and, and_false, if_false, if_true, ne_eq, kO_150, kO_151, kO_152, kO_170, kO_180, kO_190, Value.ref.injEq, exists_eq_left', false_or, o1, o2]
          refine ⟨⟨nI_pos (by omega), (ltI (by omega) (by omega)).mpr e⟩, fun G q1 f1 hmm => ?_⟩
          have hM2 := hM.ext f1
          have kpn : pnOK h (pn h a i) := kA.2.1.2.2.2.2 i (by omega)
          rw [p2] at hmm
          have hmm2 := hmm.old hE kpn
          have hd : dR G 320 q = dR h' 320 q := (f1.o q (by rw [a2]; rfl)).dR 320
          obtain ⟨m1, m2, m3, m4⟩ := hM2.2.1
          rw [hd] at m2 m3
          refine ⟨by rw [m2]; rfl, ⟨m3.2.1, by have := m3.2.2.1; omega, by rw [hmm.1.1.1]; simp [objK]⟩, fun h2 hL => ?_⟩
          rw [← hd] at hL
          obtain ⟨z1, z2⟩ := hM2.addP (hE.trans f1) (by omega) hmm2 hL
          have hJ2 := (hJ.ext hM f1).addP hM2 (by omega) hmm.1 (fun j hj => by
            rw [(f1.o q (by rw [a2]; rfl)).dR 320, (b3.ext f1).2, ((b4 j hj).1.ext f1).2.2.1]
            exact fun e => by have := (b4 j hj).1.1.2.2.1; rw [e, hmm.2.2.1] at this; cases this) hL
          exact ⟨by omega, q, by rw [nI_1], z2, z1, hJ2, by omega⟩) 0 (Nat.zero_le _)
      refine ⟨_, go_X3_mirrored_0 hz hr (Go.widen _ _ l1 (by omega) (by omega)), ?_⟩
      show wp_X3_mirrored_0 P X _ [some (.ref a), none, none] [] h
      have kA1 := kA.1
      have kA2 := kA.2.2.2.1
      simp only [wp_X3_mirrored_16, wp_X3_mirrored_0, wp_X3_mirrored_22, wp_X3_mirrored_63, T_X3_init, T_Jx4a65c_size_8abf5, T_Jx4a65c_get_915e3, T_X4_mirrored, T_Jx4a65c_add_9ea2d, T_X0_mirrored, i_mmax, i_mmin, i_pushI, i_pushN, i_pushL, i_iload, i_aload, i_istore, i_astore, i_iinc, i_iadd, i_isub, i_imul, i_iand, i_ior, i_ixor, i_ishl, i_ishr, i_iushr, i_idiv, i_i2l, i_lcmp, i_dup, i_pop, i_dupx1, i_dup2, i_ifeq, i_ifne, i_iflt, i_ifge, i_ifgt, i_ifle, i_iceq, i_icne, i_iclt, i_icge, i_icgt, i_icle, i_ifnull, i_aceq, i_getI, i_getR, i_putI, i_putZ, i_putR, i_new, i_newarr, i_ald, i_lald, i_aald, i_alen, i_ast, i_zast, i_last, i_aast, i_aastL, i_cast, i_gste, i_ldcM, i_getC, i_acopy, i_dead, i_objinit, i_callV, i_callS, i_callI, i_iret, i_zret, i_aret, i_vret, i_throw, popN, pushO, lget, lset, isRf_ref, isRf_null, isRf_rf, isC1_int, isC1_ref, isC1_null, isC1_rf, true_and, and_true, List.length_cons, List.length_nil, Nat.reduceAdd, Nat.reduceLeDiff, hK_sI, hN_sI, hR_sI, hI_sI, hK_sR, hN_sR, hR_sR, hI_sR, kC_2, kC_3, kC_4, kC_5, kC_6, kC_7, kC_8, kC_9, kC_10, kC_11, kC_20, kC_21, kC_22, kC_23, i2_0, i1_1, i0_1, i1_0, bI_and, bI_0, Decidable.not_not, not_false_eq_true, not_true_eq_false, forall_const, false_implies, true_implies, hK_copy, hN_copy, hI_copy, hC_sI, hC_sR, hC_new, hK_new, hN_new, hI_new, hR_new, rf_some, rf_none, ex_ref, ex_null, ex_rf, nref_null, rf_null, Nat.reduceEqDiff, reduceCtorEq, false_and, and_false, if_false, if_true, ne_eq, kO_150, kO_151, kO_152, kO_170, kO_180, kO_190, Value.ref.injEq, exists_eq_left', false_or, kA1]
      intro q hq
      have aq : ¬ a = q := fun e => by rw [e, hq] at kA1; cases kA1
      have cq : ¬ hC h 0 = q := fun e => by rw [e, hq] at kC0; cases kC0.1
      simp only [wp_X3_mirrored_16, wp_X3_mirrored_0, wp_X3_mirrored_22, wp_X3_mirrored_63, T_X3_init, T_Jx4a65c_size_8abf5, T_Jx4a65c_get_915e3, T_X4_mirrored, T_Jx4a65c_add_9ea2d, T_X0_mirrored, i_mmax, i_mmin, i_pushI, i_pushN, i_pushL, i_iload, i_aload, i_istore, i_astore, i_iinc, i_iadd, i_isub, i_imul, i_iand, i_ior, i_ixor, i_ishl, i_ishr, i_iushr, i_idiv, i_i2l, i_lcmp, i_dup, i_pop, i_dupx1, i_dup2, i_ifeq, i_ifne, i_iflt, i_ifge, i_ifgt, i_ifle, i_iceq, i_icne, i_iclt, i_icge, i_icgt, i_icle, i_ifnull, i_aceq, i_getI, i_getR, i_putI, i_putZ, i_putR, i_new, i_newarr, i_ald, i_lald, i_aald, i_alen, i_ast, i_zast, i_last, i_aast, i_aastL, i_cast, i_gste, i_ldcM, i_getC, i_acopy, i_dead, i_objinit, i_callV, i_callS, i_callI, i_iret, i_zret, i_aret, i_vret, i_throw, popN, pushO, lget, lset, isRf_ref, isRf_null, isRf_rf, isC1_int, isC1_ref, isC1_null, isC1_rf, true_and, and_true, List.length_cons, List.length_nil, Nat.reduceAdd, Nat.reduceLeDiff, hK_sI, hN_sI, hR_sI, hI_sI, hK_sR, hN_sR, hR_sR, hI_sR, kC_2, kC_3, kC_4, kC_5, kC_6, kC_7, kC_8, kC_9, kC_10, kC_11, kC_20, kC_21, kC_22, kC_23, i2_0, i1_1, i0_1, i1_0, bI_and, bI_0, Decidable.not_not, not_false_eq_true, not_true_eq_false, forall_const, false_implies, true_implies, hK_copy, hN_copy, hI_copy, hC_sI, hC_sR, hC_new, hK_new, hN_new, hI_new, hR_new, rf_some, rf_none, ex_ref, ex_null, ex_rf, nref_null, rf_null, Nat.reduceEqDiff, reduceCtorEq, false_and, and_false, if_false, if_true, ne_eq, kO_150, kO_151, kO_152, kO_170, kO_180, kO_190, Value.ref.injEq, exists_eq_left', false_or, aq, cq, kC0.1, kC0.2]
      refine ⟨fun e q1 q2 f1 f2 ne => ?_, fun e q1 q2 f1 f2 ne => ?_⟩
      · have := page_new (a := a) kC0 hq (by rw [hK_new]; exact f1) (by rw [hK_new]; exact f2) ne
        rw [bI_f e] at this
        exact ⟨q, rfl, this.1, this.2, pgInj_0 _ _ _, Nat.zero_le _⟩
      · have := page_new (a := a) kC0 hq (by rw [hK_new]; exact f1) (by rw [hK_new]; exact f2) ne
        rw [bI_t e] at this
        exact ⟨q, rfl, this.1, this.2, pgInj_0 _ _ _, Nat.zero_le _⟩
    · exact hT.elim
  · unfold T_X3_mirrored at hT
    split at hT
    · exact ⟨Nat.le_of_ble_eq_true rfl, by simp [isC1_int, isC1_ref, isC1_null, isC1_rf]⟩
    · exact hT.elim
