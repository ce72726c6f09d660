theorem mX_ext {h h' : hp_T} (e : Ext h h') {b : Nat} (k : hK h b = 3) : mX h' b = mX h b ∧ mY h' b = mY h b := by
  obtain ⟨_, _, e3⟩ := e.1 b (by rw [k]; decide)
  unfold mX mY
  rw [(e3 _ _).1, (e3 _ _).1, (e3 _ _).1, (e3 _ _).1]
  exact ⟨rfl, rfl⟩
theorem spk_ext {h h' : hp_T} (e : Ext h h') {q w : Nat} (k : pnOK h q) (kw : blOK h w) : spk h' q w = spk h q w := by
  unfold spk
  rw [((e.1 w (by rw [kw.1]; decide)).2.2 129 0).1, (k.ext e).2.2.2]
theorem tHit_ext {h h' : hp_T} (e : Ext h h') {q w o : Nat} (k : pnOK h q) (kw : blOK h w) (ko : blOK h o) (a1 a2 a3 a4 : Int32) : tHit h' q w o a1 a2 a3 a4 ↔ tHit h q w o a1 a2 a3 a4 := by
  have ew := ((e.1 w (by rw [kw.1]; decide)).2.2 129 0).1
  have eo := ((e.1 o (by rw [ko.1]; decide)).2.2 129 0).1
  have eb := (ko.ext e).2
  have es := spk_ext e k ko
  have key : ∀ c, spk h q o = some c → mX h' (dR h' 131 o) = mX h (dR h 131 o) ∧ mY h' (dR h' 131 o) = mY h (dR h 131 o) ∧ mX h' (dR h' 256 c) = mX h (dR h 256 c) ∧ mY h' (dR h' 256 c) = mY h (dR h 256 c) := fun c hc => by
    have kc := spk_ok k hc
    rw [eb, (kc.ext e).2]
    exact ⟨(mX_ext e ko.2.2).1, (mX_ext e ko.2.2).2, (mX_ext e kc.2.2.1).1, (mX_ext e kc.2.2.1).2⟩
  unfold tHit
  rw [es, ew, eo]
  constructor
  · rintro ⟨c, hc, z⟩
    obtain ⟨r1, r2, r3, r4⟩ := key c hc
    rw [r1, r2, r3, r4] at z
    exact ⟨c, hc, z⟩
  · rintro ⟨c, hc, z⟩
    obtain ⟨r1, r2, r3, r4⟩ := key c hc
    refine ⟨c, hc, ?_⟩
    rw [r1, r2, r3, r4]
    exact z
/-- the tail of w, spoken by c, is hit by the balloon at a place -/
def tlOn (h : hp_T) (a : Nat) (y : Int32) (w q c i : Nat) : Prop := ¬ nI i = y ∧ hI h 128 (bl h a i) 0 = hI h 128 w 0 ∧ (tToN (mX h (dR h 131 w)) (mY h (dR h 131 w)) (mX h (dR h 256 c)) (mY h (dR h 256 c)) (hI h 192 (bb h a i) 0) (hI h 193 (bb h a i) 0) (hI h 194 (bb h a i) 0) (hI h 195 (bb h a i) 0) ∨ tHit h q w (bl h a i) (mX h (dR h 131 w)) (mY h (dR h 131 w)) (mX h (dR h 256 c)) (mY h (dR h 256 c)))
def tlHit (h : hp_T) (a : Nat) (y : Int32) (w q : Nat) : Prop := ∃ c, spk h q w = some c ∧ ∃ i, i < blN h a ∧ tlOn h a y w q c i
def wp_X3_isTailHit_0 (P : Option Value → hp_T → Prop) (X : String → hp_T → Prop) (K38 : KT) : KT :=
  i_aload 3 (i_aload 2 (i_getI 2 129 (i_callV 1 6 T_X4_faceOf noX (i_astore 4 (i_aload 4 (i_ifnull (i_pushI 0 (i_zret P)) (i_new 8 (i_dup (i_aload 2 (i_getR 2 131 (i_aload 4 (i_getR 4 256
    (i_callI 2 T_X6_init noX (i_astore 5 (i_pushI 0 (i_istore 6 K38))))))))))))))))
set_option maxRecDepth 20000 in
theorem go_X3_isTailHit_0 {z : zT} {P : Option Value → hp_T → Prop} {X : String → hp_T → Prop} {K38 : KT} (hz : Cx z cX3_isTailHit 8 "Panelry$Page" "isTailHit" 4 24 96) (hr : Rt z (some .boolean) P X 24 96) (h38 : Go z (1) (4) 38 K38) : Go z 0 0 0 (wp_X3_isTailHit_0 P X K38) := 
  s_aload_n hz rfl dX3_isTailHit_0 (s_aload_n hz rfl dX3_isTailHit_1 (fg_RX3_68 hz dX3_isTailHit_2 (s_callV hz ct_X4_faceOf ⟨w744, w739, w48, by decide, by decide, by decide +kernel⟩ w737 w738 cls5 rfl rfl rfl rfl rfl rfl out_no dX3_isTailHit_5
    (s_astore hz rfl dX3_isTailHit_8 (s_aload hz dX3_isTailHit_10 (s_ifnonnull hz (tgt := 17) rfl dX3_isTailHit_12 (s_iconst hz rfl dX3_isTailHit_15 (s_zret hz hr rfl rfl dX3_isTailHit_16))
    (s_new hz kO_8 cls7 w745 w746 w53 rfl rfl dX3_isTailHit_17 (s_dup hz dX3_isTailHit_20 (s_aload_n hz rfl dX3_isTailHit_21 (fg_RX3_63 hz dX3_isTailHit_22 (s_aload hz dX3_isTailHit_25 (fg_RX3_77 hz dX3_isTailHit_27
    (s_callI hz ct_X6_init ⟨w747, w749, w53, by decide, by decide, by decide +kernel⟩ w748 rfl rfl rfl rfl rfl out_no dX3_isTailHit_30 (s_astore hz rfl dX3_isTailHit_33 (s_iconst hz rfl dX3_isTailHit_35
    (s_istore hz rfl dX3_isTailHit_36 (Go.widen _ _ h38 (by omega) (by omega))))))))))))))))))
def wp_X3_isTailHit_90 (P : Option Value → hp_T → Prop) (X : String → hp_T → Prop) : KT :=
  i_pushI 1 (i_zret P)
set_option maxRecDepth 20000 in
theorem go_X3_isTailHit_90 {z : zT} {C S : Nat} {P : Option Value → hp_T → Prop} {X : String → hp_T → Prop} (hz : Cx z cX3_isTailHit 8 "Panelry$Page" "isTailHit" 4 24 96) (hr : Rt z (some .boolean) P X 24 96) (hC : C + 0 ≤ 24) (hS : S + 0 ≤ 96) : Go z C S 90 (wp_X3_isTailHit_90 P X) := 
  s_iconst hz rfl dX3_isTailHit_90 (s_zret hz hr (ble_of (by omega)) (ble_of (by omega)) dX3_isTailHit_91)
def wp_X3_isTailHit_92 (P : Option Value → hp_T → Prop) (X : String → hp_T → Prop) (K38 : KT) : KT :=
  i_iinc 6 1 K38
set_option maxRecDepth 20000 in
theorem go_X3_isTailHit_92 {z : zT} {C S : Nat} {P : Option Value → hp_T → Prop} {X : String → hp_T → Prop} {K38 : KT} (hz : Cx z cX3_isTailHit 8 "Panelry$Page" "isTailHit" 4 24 96) (hr : Rt z (some .boolean) P X 24 96) (hC : C + 0 ≤ 24) (hS : S + 0 ≤ 96) (h38 : Go z (C + 0) (S + 0) 38 K38) : Go z C S 92 (wp_X3_isTailHit_92 P X K38) := 
  s_iinc hz rfl rfl dX3_isTailHit_92 (s_goto hz (tgt := 38) rfl dX3_isTailHit_95 (Go.widen _ _ h38 (by omega) (by omega)))
def wp_X3_isTailHit_38 (P : Option Value → hp_T → Prop) (X : String → hp_T → Prop) (K38 : KT) : KT :=
  i_iload 6 (i_aload 0 (i_getR 5 321 (i_callV 0 1 T_Jx4a65c_size_8abf5 noX (i_icge (i_pushI 0 (i_zret P)) (i_aload 0 (i_iload 6 (i_iload 1 (i_aload 2 (i_callV 3 5 T_X3_neighbourAt noX
    (i_astore 7 (i_aload 7 (i_ifnull (wp_X3_isTailHit_92 P X K38) (i_aload 5 (i_aload 7 (i_getR 2 131 (i_callV 1 8 T_X6_touches noX (i_ifne (wp_X3_isTailHit_90 P X) (i_aload 5 (i_aload 2
    (i_aload 7 (i_aload 3 (i_callS 4 T_X3_isTailMet noX (i_ifeq (wp_X3_isTailHit_92 P X K38) (wp_X3_isTailHit_90 P X))))))))))))))))))))))))
set_option maxRecDepth 20000 in
theorem go_X3_isTailHit_38 {z : zT} {C S : Nat} {P : Option Value → hp_T → Prop} {X : String → hp_T → Prop} {K38 : KT} (hz : Cx z cX3_isTailHit 8 "Panelry$Page" "isTailHit" 4 24 96) (hr : Rt z (some .boolean) P X 24 96) (hC : C + 1 ≤ 24) (hS : S + 4 ≤ 96) (h38 : Go z (C + 1) (S + 4) 38 K38) : Go z C S 38 (wp_X3_isTailHit_38 P X K38) := 
  s_iload hz dX3_isTailHit_38 (s_aload_n hz rfl dX3_isTailHit_40 (fg_RX3_18 hz dX3_isTailHit_41 (s_callV hz ct_Jx4a65c_size_8abf5 ⟨w167, w115, w32, by decide, by decide, by decide +kernel⟩ w113 w114 cls0 rfl rfl rfl rfl
    (ble_of (by omega)) (ble_of (by omega)) out_no dX3_isTailHit_44 (s_icge hz (tgt := 98) rfl dX3_isTailHit_47 (s_iconst hz rfl dX3_isTailHit_98 (s_zret hz hr (ble_of (by omega)) (ble_of
    (by omega)) dX3_isTailHit_99)) (s_aload_n hz rfl dX3_isTailHit_50 (s_iload hz dX3_isTailHit_51 (s_iload_n hz rfl dX3_isTailHit_53 (s_aload_n hz rfl dX3_isTailHit_54 (s_callV hz ct_X3_neighbourAt ⟨w727, w730, w38, by decide, by decide, by decide +kernel⟩ w729 w13 cls4 rfl rfl rfl rfl
    (ble_of (by omega)) (ble_of (by omega)) out_no dX3_isTailHit_55 (s_astore hz rfl dX3_isTailHit_58 (s_aload hz dX3_isTailHit_60 (s_ifnull hz (tgt := 92) rfl dX3_isTailHit_62 (go_X3_isTailHit_92 hz hr
    (by omega) (by omega) (Go.widen _ _ h38 (by omega) (by omega))) (s_aload hz dX3_isTailHit_65 (s_aload hz dX3_isTailHit_67 (fg_RX3_63 hz dX3_isTailHit_69 (s_callV hz ct_X6_touches ⟨w772, w775, w53, by decide, by decide, by decide +kernel⟩ w773 w774 cls7 rfl rfl rfl rfl
    (ble_of (by omega)) (ble_of (by omega)) out_no dX3_isTailHit_72 (s_ifne hz (tgt := 90) rfl dX3_isTailHit_75 (go_X3_isTailHit_90 hz hr (by omega) (by omega)) (s_aload hz dX3_isTailHit_78
    (s_aload_n hz rfl dX3_isTailHit_80 (s_aload hz dX3_isTailHit_81 (s_aload_n hz rfl dX3_isTailHit_83 (s_callS hz ct_X3_isTailMet ⟨w790, w792, w38, by decide, by decide, by decide +kernel⟩ w791 rfl rfl
    (ble_of (by omega)) (ble_of (by omega)) out_no dX3_isTailHit_84 (s_ifeq hz (tgt := 92) rfl dX3_isTailHit_87 (go_X3_isTailHit_92 hz hr (by omega) (by omega) (Go.widen _ _ h38 (by omega)
    (by omega))) (go_X3_isTailHit_90 hz hr (by omega) (by omega)))))))))))))))))))))))))

def T_X3_isTailHit : PT := fun av h P X => match av with
  | [.ref a, .int y, .ref w, .ref q] => (pgOK h a ∧ blOK h w ∧ pnOK h q) ∧ (∀ h', Ext h h' → P (some (.int (bI (tlHit h a y w q)))) h')
  | _ => False
set_option maxRecDepth 20000 in
theorem ct_X3_isTailHit : CT yX3_isTailHit cX3_isTailHit 8 (some .boolean) 4 24 96 T_X3_isTailHit := by
  refine ct_ofE (by decide) (fun z av h P X hT hz hr => ?_) (fun av h P X hT => ?_)
  · unfold T_X3_isTailHit at hT
    split at hT
    · rename_i a y w q
      obtain ⟨hk, hp⟩ := hT
      obtain ⟨kA, kw, kq⟩ := hk
      have hloop := Go.loopA (z := z) (pc := 38) (fun i => 1 + 1 * i) (fun i => 4 + 4 * i) 20 (fun i ls st h' => ∃ t c o, ls = [some (.ref a), some (.int y), some (.ref w), some (.ref q), some (.ref c), some (.ref t), some (.int (nI i)), o] ∧ st = [] ∧ Ext h h' ∧ spk h q w = some c ∧ (hK h' t = 8 ∧ hI h' 512 t 0 = mX h (dR h 131 w) ∧ hI h' 513 t 0 = mY h (dR h 131 w) ∧ hI h' 514 t 0 = mX h (dR h 256 c) ∧ hI h' 515 t 0 = mY h (dR h 256 c)) ∧ ∀ j, j < i → j < blN h a ∧ ¬ tlOn h a y w q c j) (fun k => wp_X3_isTailHit_38 P X k) (fun i k hi hgo => go_X3_isTailHit_38 hz hr (by omega) (by omega) (Go.widen _ _ hgo (by omega) (by omega))) (by
        rintro i hi ls st h' ⟨t, c, o, rfl, rfl, hE, hc, ⟨kt, t1, t2, t3, t4⟩, hno⟩
        obtain ⟨kA', ⟨p1, p2, p3, p4, p5, p6, p7, p8⟩⟩ := kA.ext hE
        have kw' := (kw.ext hE).1
        have kq' := (kq.ext hE).1
        have kwk := kw'.1
        obtain ⟨k1, ⟨k2, k3, k4, k5, k6⟩, ⟨k7, k8, k9, k10, k11⟩, k12, k13⟩ := id kA'
        have eN : lsz h' (dR h' 320 a) = pnN h' a := rfl
        have eB : lsz h' (dR h' 321 a) = blN h' a := rfl
        have eP : ∀ j, lel h' (dR h' 320 a) j = pn h' a j := fun _ => rfl
        have eL : ∀ j, lel h' (dR h' 321 a) j = bl h' a j := fun _ => rfl
        have eQ : ∀ j, dR h' 384 (pn h' a j) = pb h' a j := fun _ => rfl
        have eR : ∀ j, dR h' 131 (bl h' a j) = bb h' a j := fun _ => rfl
        have hge : (nI (blN h' a) ≤ nI i) ↔ ¬ i < blN h' a := by rw [leI (by omega) (by omega)]; omega
        simp only [wp_X3_isTailHit_0, wp_X3_isTailHit_90, wp_X3_isTailHit_92, wp_X3_isTailHit_38, T_X4_faceOf, T_X6_init, T_Jx4a65c_size_8abf5, T_X3_neighbourAt, T_X6_touches, T_X3_isTailMet, i_mmax, i_mmin, i_pushI, i_pushN, i_pushL, i_iload, i_aload, i_istore, i_astore, i_iinc, i_iadd, i_isub, i_imul, i_iand, i_ior, i_ixor, i_ishl, i_ishr, i_iushr, i_idiv, i_i2l, i_lcmp, i_dup, i_pop, i_dupx1, i_dup2, i_ifeq, i_ifne, i_iflt, i_ifge, i_ifgt, i_ifle, i_iceq, i_icne, i_iclt, i_icge, i_icgt, i_icle, i_ifnull, i_aceq, i_getI, i_getR, i_putI, i_putZ, i_putR, i_new, i_newarr, i_ald, i_lald, i_aald, i_alen, i_ast, i_zast, i_last, i_aast, i_aastL, i_cast, i_gste, i_ldcM, i_getC, i_acopy, i_dead, i_objinit, i_callV, i_callS, i_callI, i_iret, i_zret, i_aret, i_vret, i_throw, popN, pushO, lget, lset, isRf_ref, isRf_null, isRf_rf, isC1_int, isC1_ref, isC1_null, isC1_rf, true_and, and_true, List.length_cons, List.length_nil, Nat.reduceAdd, Nat.reduceLeDiff, hK_sI, hN_sI, hR_sI, hI_sI, hK_sR, hN_sR, hR_sR, hI_sR, kC_2, kC_3, kC_4, kC_5, kC_6, kC_7, kC_8, kC_9, kC_10, kC_11, kC_20, kC_21, kC_22, kC_23, i2_0, i1_1, i0_1, i1_0, bI_and, bI_0, Decidable.not_not, not_false_eq_true, not_true_eq_false, forall_const, false_implies, true_implies, hK_copy, hN_copy, hI_copy, hC_sI, hC_sR, hC_new, hK_new, hN_new, hI_new, hR_new, rf_some, rf_none, ex_ref, ex_null, ex_rf, nref_null, rf_null, Nat.reduceEqDiff, reduceCtorEq, false_and, and_false, if_false, if_true, ne_eq, kO_150, kO_151, kO_152, kO_170, kO_180, kO_190, Value.ref.injEq, exists_eq_left', false_or, k1, k2, k3, k4, k7, k8, k9, eN, eB, eP, eL, eQ, eR, hge, kwk]
        refine ⟨fun e => ?_, fun e => ⟨kA', fun e2 => ?_, fun e2 => ?_⟩⟩
        · have := hp h' hE
          rw [bI_f (fun ⟨c', hc', j, hj, z⟩ => by rw [hc] at hc'; cases hc'; exact (hno j (by omega)).2 z)] at this
          exact this
        · have hn := nbr_none (by omega) e e2
          refine ⟨by omega, t, c, _, by rw [e2, nI_1], hE, hc, ⟨kt, t1, t2, t3, t4⟩, fun j hj => ?_⟩
          by_cases e4 : j = i
          · subst e4
            have f1 := (hE.1 (bl h a j) (by rw [(kA.2.2.1.2.2.2.2 j (by omega)).1]; decide)).2.2
            refine ⟨by omega, fun z => hn ⟨z.1, ?_⟩⟩
            rw [p4, (f1 _ _).1, ((hE.1 w (by rw [kw.1]; decide)).2.2 _ _).1]
            exact z.2.1
          · exact hno j (by omega)
        · obtain ⟨x, hx⟩ := (pn_null _).mp e2
          obtain ⟨⟨n1, n2, n3⟩, n4⟩ := nbr_some (by omega) (by omega) hx
          obtain ⟨o1, o2, o3⟩ := k11 i e
          rw [eR] at o2 o3
          subst n4
          simp only [wp_X3_isTailHit_0, wp_X3_isTailHit_90, wp_X3_isTailHit_92, wp_X3_isTailHit_38, T_X4_faceOf, T_X6_init, T_Jx4a65c_size_8abf5, T_X3_neighbourAt, T_X6_touches, T_X3_isTailMet, i_mmax, i_mmin, i_pushI, i_pushN, i_pushL, i_iload, i_aload, i_istore, i_astore, i_iinc, i_iadd, i_isub, i_imul, i_iand, i_ior, i_ixor, i_ishl, i_ishr, i_iushr, i_idiv, i_i2l, i_lcmp, i_dup, i_pop, i_dupx1, i_dup2, i_ifeq, i_ifne, i_iflt, i_ifge, i_ifgt, i_ifle, i_iceq, i_icne, i_iclt, i_icge, i_icgt, i_icle, i_ifnull, i_aceq, i_getI, i_getR, i_putI, i_putZ, i_putR, i_new, i_newarr, i_ald, i_lald, i_aald, i_alen, i_ast, i_zast, i_last, i_aast, i_aastL, i_cast, i_gste, i_ldcM, i_getC, i_acopy, i_dead, i_objinit, i_callV, i_callS, i_callI, i_iret, i_zret, i_aret, i_vret, i_throw, popN, pushO, lget, lset, isRf_ref, isRf_null, isRf_rf, isC1_int, isC1_ref, isC1_null, isC1_rf, true_and, and_true, List.length_cons, List.length_nil, Nat.reduceAdd, Nat.reduceLeDiff, hK_sI, hN_sI, hR_sI, hI_sI, hK_sR, hN_sR, hR_sR, hI_sR, kC_2, kC_3, kC_4, kC_5, kC_6, kC_7, kC_8, kC_9, kC_10, kC_11, kC_20, kC_21, kC_22, kC_23, i2_0, i1_1, i0_1, i1_0, bI_and, bI_0, Decidable.not_not, not_false_eq_true, not_true_eq_false, forall_const, false_implies, true_implies, hK_copy, hN_copy, hI_copy, hC_sI, hC_sR, hC_new, hK_new, hN_new, hI_new, hR_new, rf_some, rf_none, ex_ref, ex_null, ex_rf, nref_null, rf_null, Nat.reduceEqDiff, reduceCtorEq, false_and, and_false, if_false, if_true, ne_eq, kO_150, kO_151, kO_152, kO_170, kO_180, kO_190, Value.ref.injEq, exists_eq_left', false_or, hx, o1, o2, o3, kt, kw', kq']
          have hlt : i < blN h a := by rw [← p3]; exact e
          obtain ⟨b1, b2, b3⟩ := kA.2.2.1.2.2.2.2 i hlt
          have g1 := (hE.1 (bb h a i) (by rw [show hK h (bb h a i) = 3 from b3]; decide)).2.2
          have hon : (tTo h' t (bb h' a i) ∨ tHit h' q w (bl h' a i) (hI h' 512 t 0) (hI h' 513 t 0) (hI h' 514 t 0) (hI h' 515 t 0)) ↔ tlOn h a y w q c i := by
            have : hI h 128 (bl h a i) 0 = hI h 128 w 0 := by
              rw [p4, ((hE.1 (bl h a i) (by rw [b1]; decide)).2.2 _ _).1, ((hE.1 w (by rw [kw.1]; decide)).2.2 _ _).1] at n3
              exact n3
            unfold tlOn tTo
            rw [p4, p6 i hlt, t1, t2, t3, t4, (g1 _ _).1, (g1 _ _).1, (g1 _ _).1, (g1 _ _).1, tHit_ext hE kq kw ⟨b1, b2, b3⟩]
            exact ⟨fun z => ⟨n1, this, z⟩, fun z => z.2.2⟩
          refine ⟨fun e3 => ?_, fun e3 => ⟨k11 i e, fun h2 hE2 => ⟨fun e4 => ?_, fun e4 => ?_⟩⟩⟩
          · have := hp h' hE
            rw [bI_t ⟨c, hc, i, hlt, hon.mp (Or.inl e3)⟩] at this
            exact this
          · obtain ⟨u1, u2, u3⟩ := hE2.1 t (by rw [kt]; decide)
            refine ⟨by omega, t, c, _, by rw [nI_1], hE.trans hE2, hc, ⟨u1.trans kt, (u3 _ _).1.trans t1, (u3 _ _).1.trans t2, (u3 _ _).1.trans t3, (u3 _ _).1.trans t4⟩, fun j hj => ?_⟩
            by_cases e5 : j = i
            · subst e5
              exact ⟨hlt, fun z => (hon.mpr z).elim e3 e4⟩
            · exact hno j (by omega)
          · have := hp h2 (hE.trans hE2)
            rw [bI_t ⟨c, hc, i, hlt, hon.mp (Or.inr (Classical.not_not.mp e4))⟩] at this
            exact this) 0 (Nat.zero_le _)
      refine ⟨_, go_X3_isTailHit_0 hz hr (Go.widen _ _ hloop (by omega) (by omega)), ?_⟩
      show wp_X3_isTailHit_0 P X _ [some (.ref a), some (.int y), some (.ref w), some (.ref q), none, none, none, none] [] h
      obtain ⟨w1, w2, w3⟩ := id kw
      have q1 := kq.1
      have eS : (if ¬ hI h 129 w 0 < 0 ∧ hI h 129 w 0 < 12 then pnFO h q (hI h 129 w 0).toNatClampNeg else none) = spk h q w := rfl
      simp only [wp_X3_isTailHit_0, wp_X3_isTailHit_90, wp_X3_isTailHit_92, wp_X3_isTailHit_38, T_X4_faceOf, T_X6_init, T_Jx4a65c_size_8abf5, T_X3_neighbourAt, T_X6_touches, T_X3_isTailMet, i_mmax, i_mmin, i_pushI, i_pushN, i_pushL, i_iload, i_aload, i_istore, i_astore, i_iinc, i_iadd, i_isub, i_imul, i_iand, i_ior, i_ixor, i_ishl, i_ishr, i_iushr, i_idiv, i_i2l, i_lcmp, i_dup, i_pop, i_dupx1, i_dup2, i_ifeq, i_ifne, i_iflt, i_ifge, i_ifgt, i_ifle, i_iceq, i_icne, i_iclt, i_icge, i_icgt, i_icle, i_ifnull, i_aceq, i_getI, i_getR, i_putI, i_putZ, i_putR, i_new, i_newarr, i_ald, i_lald, i_aald, i_alen, i_ast, i_zast, i_last, i_aast, i_aastL, i_cast, i_gste, i_ldcM, i_getC, i_acopy, i_dead, i_objinit, i_callV, i_callS, i_callI, i_iret, i_zret, i_aret, i_vret, i_throw, popN, pushO, lget, lset, isRf_ref, isRf_null, isRf_rf, isC1_int, isC1_ref, isC1_null, isC1_rf, true_and, and_true, List.length_cons, List.length_nil, Nat.reduceAdd, Nat.reduceLeDiff, hK_sI, hN_sI, hR_sI, hI_sI, hK_sR, hN_sR, hR_sR, hI_sR, kC_2, kC_3, kC_4, kC_5, kC_6, kC_7, kC_8, kC_9, kC_10, kC_11, kC_20, kC_21, kC_22, kC_23, i2_0, i1_1, i0_1, i1_0, bI_and, bI_0, Decidable.not_not, not_false_eq_true, not_true_eq_false, forall_const, false_implies, true_implies, hK_copy, hN_copy, hI_copy, hC_sI, hC_sR, hC_new, hK_new, hN_new, hI_new, hR_new, rf_some, rf_none, ex_ref, ex_null, ex_rf, nref_null, rf_null, Nat.reduceEqDiff, reduceCtorEq, false_and, and_false, if_false, if_true, ne_eq, kO_150, kO_151, kO_152, kO_170, kO_180, kO_190, Value.ref.injEq, exists_eq_left', false_or, w1, w2, w3, q1, q1.1, eS]
      refine ⟨fun e => ?_, fun e => ?_⟩
      · have := hp h Ext.rfl
        rw [bI_f (fun ⟨c, hc, _⟩ => by rw [e] at hc; cases hc)] at this
        exact this
      · obtain ⟨c, hc⟩ := (pn_null _).mp e
        obtain ⟨c1, c2, c3, c4⟩ := spk_ok kq hc
        simp only [wp_X3_isTailHit_0, wp_X3_isTailHit_90, wp_X3_isTailHit_92, wp_X3_isTailHit_38, T_X4_faceOf, T_X6_init, T_Jx4a65c_size_8abf5, T_X3_neighbourAt, T_X6_touches, T_X3_isTailMet, i_mmax, i_mmin, i_pushI, i_pushN, i_pushL, i_iload, i_aload, i_istore, i_astore, i_iinc, i_iadd, i_isub, i_imul, i_iand, i_ior, i_ixor, i_ishl, i_ishr, i_iushr, i_idiv, i_i2l, i_lcmp, i_dup, i_pop, i_dupx1, i_dup2, i_ifeq, i_ifne, i_iflt, i_ifge, i_ifgt, i_ifle, i_iceq, i_icne, i_iclt, i_icge, i_icgt, i_icle, i_ifnull, i_aceq, i_getI, i_getR, i_putI, i_putZ, i_putR, i_new, i_newarr, i_ald, i_lald, i_aald, i_alen, i_ast, i_zast, i_last, i_aast, i_aastL, i_cast, i_gste, i_ldcM, i_getC, i_acopy, i_dead, i_objinit, i_callV, i_callS, i_callI, i_iret, i_zret, i_aret, i_vret, i_throw, popN, pushO, lget, lset, isRf_ref, isRf_null, isRf_rf, isC1_int, isC1_ref, isC1_null, isC1_rf, true_and, and_true, List.length_cons, List.length_nil, Nat.reduceAdd, Nat.reduceLeDiff, hK_sI, hN_sI, hR_sI, hI_sI, hK_sR, hN_sR, hR_sR, hI_sR, kC_2, kC_3, kC_4, kC_5, kC_6, kC_7, kC_8, kC_9, kC_10, kC_11, kC_20, kC_21, kC_22, kC_23, i2_0, i1_1, i0_1, i1_0, bI_and, bI_0, Decidable.not_not, not_false_eq_true, not_true_eq_false, forall_const, false_implies, true_implies, hK_copy, hN_copy, hI_copy, hC_sI, hC_sR, hC_new, hK_new, hN_new, hI_new, hR_new, rf_some, rf_none, ex_ref, ex_null, ex_rf, nref_null, rf_null, Nat.reduceEqDiff, reduceCtorEq, false_and, and_false, if_false, if_true, ne_eq, kO_150, kO_151, kO_152, kO_170, kO_180, kO_190, Value.ref.injEq, exists_eq_left', false_or, hc]
        intro x hx
        have nw : ¬ w = x := fun e => by rw [e, hx] at w1; cases w1
        have nb : ¬ dR h 131 w = x := fun e => by rw [e, hx] at w3; cases w3
        have nc : ¬ c = x := fun e => by rw [e, hx] at c1; cases c1
        have nd : ¬ dR h 256 c = x := fun e => by rw [e, hx] at c3; cases c3
        simp only [wp_X3_isTailHit_0, wp_X3_isTailHit_90, wp_X3_isTailHit_92, wp_X3_isTailHit_38, T_X4_faceOf, T_X6_init, T_Jx4a65c_size_8abf5, T_X3_neighbourAt, T_X6_touches, T_X3_isTailMet, i_mmax, i_mmin, i_pushI, i_pushN, i_pushL, i_iload, i_aload, i_istore, i_astore, i_iinc, i_iadd, i_isub, i_imul, i_iand, i_ior, i_ixor, i_ishl, i_ishr, i_iushr, i_idiv, i_i2l, i_lcmp, i_dup, i_pop, i_dupx1, i_dup2, i_ifeq, i_ifne, i_iflt, i_ifge, i_ifgt, i_ifle, i_iceq, i_icne, i_iclt, i_icge, i_icgt, i_icle, i_ifnull, i_aceq, i_getI, i_getR, i_putI, i_putZ, i_putR, i_new, i_newarr, i_ald, i_lald, i_aald, i_alen, i_ast, i_zast, i_last, i_aast, i_aastL, i_cast, i_gste, i_ldcM, i_getC, i_acopy, i_dead, i_objinit, i_callV, i_callS, i_callI, i_iret, i_zret, i_aret, i_vret, i_throw, popN, pushO, lget, lset, isRf_ref, isRf_null, isRf_rf, isC1_int, isC1_ref, isC1_null, isC1_rf, true_and, and_true, List.length_cons, List.length_nil, Nat.reduceAdd, Nat.reduceLeDiff, hK_sI, hN_sI, hR_sI, hI_sI, hK_sR, hN_sR, hR_sR, hI_sR, kC_2, kC_3, kC_4, kC_5, kC_6, kC_7, kC_8, kC_9, kC_10, kC_11, kC_20, kC_21, kC_22, kC_23, i2_0, i1_1, i0_1, i1_0, bI_and, bI_0, Decidable.not_not, not_false_eq_true, not_true_eq_false, forall_const, false_implies, true_implies, hK_copy, hN_copy, hI_copy, hC_sI, hC_sR, hC_new, hK_new, hN_new, hI_new, hR_new, rf_some, rf_none, ex_ref, ex_null, ex_rf, nref_null, rf_null, Nat.reduceEqDiff, reduceCtorEq, false_and, and_false, if_false, if_true, ne_eq, kO_150, kO_151, kO_152, kO_170, kO_180, kO_190, Value.ref.injEq, exists_eq_left', false_or, nw, nb, nc, nd, w1, w2, w3, c1, c2, c3]
        refine ⟨x, c, none, rfl, htail_ext _ _ hx, rfl, ?_, fun j hj => absurd hj (Nat.not_lt_zero j)⟩
        simp only [if_true, and_self]
    · exact hT.elim
  · unfold T_X3_isTailHit at hT
    split at hT
    · exact ⟨Nat.le_of_ble_eq_true rfl, by simp [isC1_int, isC1_ref, isC1_null, isC1_rf]⟩
    · exact hT.elim
