noncomputable def brkS (h : hp_T) (a : Nat) (x : Int32) (s : Int32 × (Nat → Int32)) : Int32 × (Nat → Int32) := if ¬ x < 0 ∧ x < nI (pnN h a) then (s.1 + sumI (pnB h (pn h a x.toNatClampNeg) s.2) 12, fun i => if i < 12 then pnW h (pn h a x.toNatClampNeg) s.2 i else s.2 i) else s
noncomputable def brkL (h : hp_T) (a : Nat) (O : Nat → Int32) : Nat → Nat → Int32 × (Nat → Int32) → Int32 × (Nat → Int32)
  | 0, _, s => s
  | k + 1, i, s => brkL h a O k (i + 1) (brkS h a (O i) s)
/-- the breaks of a page, and what is worn behind it -/
noncomputable abbrev brkP (h : hp_T) (a b : Nat) : Int32 × (Nat → Int32) := brkL h a (ordI (rdG h a (hI h 322 a 0)).1) (pnN h a) 0 (0, hI h 151 b)
theorem dR_row (h : hp_T) (kd b : Nat) (f : Nat → Int32) (g a : Nat) : dR (hrow h kd b f) g a = dR h g a := rfl
theorem hrow_2 (h : hp_T) (kd b : Nat) (f f' : Nat → Int32) : hrow (hrow h kd b f) kd b f' = hrow h kd b f' := by
  unfold hrow
  refine Prod.ext rfl (Prod.ext rfl (Prod.ext ?_ rfl))
  funext g x i
  dsimp only
  by_cases c : g = kd ∧ x = b
  · rw [if_pos c, if_pos c]
  · rw [if_neg c, if_neg c, if_neg c]
theorem row_exl {h : hp_T} {b : Nat} (f : Nat → Int32) (kb : hK h b = 151) : Exl h (hrow h 151 b f) := by
  refine ⟨fun x hx => ⟨rfl, rfl, fun g i => ⟨?_, rfl⟩⟩, fun _ _ => rfl, fun _ => rfl⟩
  have n1 : ¬ x = b := fun z => by rw [z, kb] at hx; cases hx
  rw [hI_row, if_neg (fun z => n1 z.2)]
theorem row_facts {h h1 : hp_T} {a b r : Nat} {l : Int32} {f : Nat → Int32} (k : pgOK h a) (e : Ext h h1) (z : rdOf h h1 a l r) (kb : hK h1 b = 151) :
    pgOK (hrow h1 151 b f) a ∧ pnN (hrow h1 151 b f) a = pnN h a ∧ (∀ j, pn (hrow h1 151 b f) a j = pn h a j) ∧ rdOK (hrow h1 151 b f) r ∧
    (∀ j, j < 8 → (if ¬ nI j < 0 ∧ nI j < 8 then hI (hrow h1 151 b f) 150 (dR (hrow h1 151 b f) 450 r) (nI j).toNatClampNeg else -1) = ordI (rdG h a l).1 j) ∧
    (∀ j, j < pnN h a → ∀ w i, i < 12 → pnB (hrow h1 151 b f) (pn h a j) w i = pnB h (pn h a j) w i ∧ pnW (hrow h1 151 b f) (pn h a j) w i = pnW h (pn h a j) w i) := by
  have x := row_exl f kb
  have kA1 := k.ext e
  have kA2 := kA1.1.exl x
  refine ⟨kA2.1, kA2.2.1.trans kA1.2.1, fun j => (kA2.2.2.1 j).trans (kA1.2.2.1 j), ?_, fun j hj => ?_, fun j hj w i hi => ?_⟩
  · obtain ⟨⟨⟨r1, r2, r3⟩, r4, -⟩, z1, -⟩ := z
    refine ⟨⟨r1, r2, ?_⟩, r4, ?_⟩
    · rw [hI_row, if_neg (fun z => absurd z.1 (by decide))]; exact r3
    · rw [dR_row, z1]; exact kA2.1
  · have x2 : hI (hrow h1 151 b f) 150 (dR (hrow h1 151 b f) 450 r) (nI j).toNatClampNeg = hI h1 150 (dR h1 450 r) (nI j).toNatClampNeg := by
      rw [hI_row, if_neg (fun z => absurd z.1 (by decide)), dR_row]
    rw [x2]
    exact rdOf_at z hj
  · have kp := k.2.1.2.2.2.2 j hj
    have ef : pnFO (hrow h1 151 b f) (pn h a j) i = pnFO h (pn h a j) i := ((kp.ext e).2.2.2 i)
    unfold pnB pnW
    rw [ef]
    cases hc : pnFO h (pn h a j) i with
    | none => exact ⟨rfl, rfl⟩
    | some c =>
      have kc := kp.2.2 i hi c hc
      have ec := (e.1 c (by rw [kc.1]; decide)).2.2
      dsimp only
      rw [hI_row, if_neg (fun z => absurd z.1 (by decide)), hI_row, if_neg (fun z => absurd z.1 (by decide)), (ec _ _).1, (ec _ _).1]
      exact ⟨rfl, rfl⟩
def wp_X3_countBreaks_0 (P : Option Value → hp_T → Prop) (X : String → hp_T → Prop) (K14 : KT) : KT :=
  i_aload 0 (i_aload 0 (i_getI 5 322 (i_callS 2 T_X5_of noX (i_astore 2 (i_pushI 0 (i_istore 3 (i_pushI 0 (i_istore 4 K14))))))))
set_option maxRecDepth 20000 in
theorem go_X3_countBreaks_0 {z : zT} {P : Option Value → hp_T → Prop} {X : String → hp_T → Prop} {K14 : KT} (hz : Cx z cX3_countBreaks 6 "Panelry$Page" "countBreaks" 15 2 13) (hr : Rt z (some .int) P X 2 13) (h14 : Go z 2 13 14 K14) : Go z 0 0 0 (wp_X3_countBreaks_0 P X K14) := 
  s_aload_n hz rfl dX3_countBreaks_0 (s_aload_n hz rfl dX3_countBreaks_1 (fg_RX3_21 hz dX3_countBreaks_2 (s_callS hz ct_X5_of ⟨w135, w137, w49, by decide, by decide, by decide +kernel⟩ w136 rfl rfl rfl rfl out_no dX3_countBreaks_5
    (s_astore_n hz rfl rfl dX3_countBreaks_8 (s_iconst hz rfl dX3_countBreaks_9 (s_istore_n hz rfl rfl dX3_countBreaks_10 (s_iconst hz rfl dX3_countBreaks_11 (s_istore hz rfl dX3_countBreaks_12 h14))))))))
def wp_X3_countBreaks_70 (P : Option Value → hp_T → Prop) (X : String → hp_T → Prop) (K14 : KT) : KT :=
  i_iinc 4 1 K14
set_option maxRecDepth 20000 in
theorem go_X3_countBreaks_70 {z : zT} {P : Option Value → hp_T → Prop} {X : String → hp_T → Prop} {K14 : KT} (hz : Cx z cX3_countBreaks 6 "Panelry$Page" "countBreaks" 15 2 13) (hr : Rt z (some .int) P X 2 13) (h14 : Go z 2 13 14 K14) : Go z 2 13 70 (wp_X3_countBreaks_70 P X K14) := 
  s_iinc hz rfl rfl dX3_countBreaks_70 (s_goto hz (tgt := 14) rfl dX3_countBreaks_73 h14)
def wp_X3_countBreaks_14 (P : Option Value → hp_T → Prop) (X : String → hp_T → Prop) (K14 : KT) : KT :=
  i_iload 4 (i_aload 0 (i_getR 5 320 (i_callV 0 1 T_Jx4a65c_size_8abf5 noX (i_icge (i_iload 3 (i_iret P)) (i_aload 2 (i_iload 4 (i_callV 1 7 T_X5_panelAt noX (i_istore 5 (i_iload 5 (i_iflt
    (wp_X3_countBreaks_70 P X K14) (i_iload 5 (i_aload 0 (i_getR 5 320 (i_callV 0 1 T_Jx4a65c_size_8abf5 noX (i_icge (wp_X3_countBreaks_70 P X K14) (i_iload 3 (i_aload 0 (i_getR 5 320 (i_iload 5
    (i_callV 1 1 T_Jx4a65c_get_915e3 noX (i_cast 6 (i_aload 1 (i_callV 1 6 T_X4_countBreaks noX (i_iadd (i_istore 3 (wp_X3_countBreaks_70 P X K14))))))))))))))))))))))))))
set_option maxRecDepth 20000 in
theorem go_X3_countBreaks_14 {z : zT} {P : Option Value → hp_T → Prop} {X : String → hp_T → Prop} {K14 : KT} (hz : Cx z cX3_countBreaks 6 "Panelry$Page" "countBreaks" 15 2 13) (hr : Rt z (some .int) P X 2 13) (h14 : Go z 2 13 14 K14) : Go z 2 13 14 (wp_X3_countBreaks_14 P X K14) := 
  s_iload hz dX3_countBreaks_14 (s_aload_n hz rfl dX3_countBreaks_16 (fg_RX3_12 hz dX3_countBreaks_17 (s_callV hz ct_Jx4a65c_size_8abf5 ⟨w167, w115, w32, by decide, by decide, by decide +kernel⟩ w113 w114 cls0 rfl rfl rfl rfl rfl rfl out_no dX3_countBreaks_20
    (s_icge hz (tgt := 76) rfl dX3_countBreaks_23 (s_iload_n hz rfl dX3_countBreaks_76 (s_iret hz hr rfl rfl dX3_countBreaks_77)) (s_aload_n hz rfl dX3_countBreaks_26 (s_iload hz dX3_countBreaks_27
    (s_callV hz ct_X5_panelAt ⟨w211, w214, w49, by decide, by decide, by decide +kernel⟩ w212 w213 cls6 rfl rfl rfl rfl rfl rfl out_no dX3_countBreaks_29 (s_istore hz rfl dX3_countBreaks_32
    (s_iload hz dX3_countBreaks_34 (s_iflt hz (tgt := 70) rfl dX3_countBreaks_36 (go_X3_countBreaks_70 hz hr h14) (s_iload hz dX3_countBreaks_39 (s_aload_n hz rfl dX3_countBreaks_41 (fg_RX3_12 hz dX3_countBreaks_42
    (s_callV hz ct_Jx4a65c_size_8abf5 ⟨w167, w115, w32, by decide, by decide, by decide +kernel⟩ w113 w114 cls0 rfl rfl rfl rfl rfl rfl out_no dX3_countBreaks_45 (s_icge hz (tgt := 70) rfl dX3_countBreaks_48
    (go_X3_countBreaks_70 hz hr h14) (s_iload_n hz rfl dX3_countBreaks_51 (s_aload_n hz rfl dX3_countBreaks_52 (fg_RX3_12 hz dX3_countBreaks_53 (s_iload hz dX3_countBreaks_56 (s_callV hz ct_Jx4a65c_get_915e3 ⟨w215, w119, w32, by decide, by decide, by decide +kernel⟩ w117 w118 cls0 rfl rfl rfl rfl rfl rfl out_no dX3_countBreaks_58
    (s_cast hz kO_6 rfl cls5 w216 dX3_countBreaks_61 (s_aload_n hz rfl dX3_countBreaks_64 (s_callV hz ct_X4_countBreaks ⟨w217, w220, w48, by decide, by decide, by decide +kernel⟩ w218 w219 cls5 rfl rfl rfl rfl rfl rfl out_no dX3_countBreaks_65
    (s_iadd hz dX3_countBreaks_68 (s_istore_n hz rfl rfl dX3_countBreaks_69 (go_X3_countBreaks_70 hz hr h14))))))))))))))))))))))))))

def T_X3_countBreaks : PT := fun av h P X => match av with
  | [.ref a, .ref b] => (pgOK h a ∧ hK h b = 151 ∧ hN h b = 12) ∧ (∀ h', Ext h h' → P (some (.int (brkP h a b).1)) (hrow h' 151 b (brkP h a b).2))
  | _ => False
set_option maxRecDepth 20000 in
theorem ct_X3_countBreaks : CT yX3_countBreaks cX3_countBreaks 6 (some .int) 15 2 13 T_X3_countBreaks := by
  refine ct_ofE (by decide) (fun z av h P X hT hz hr => ?_) (fun av h P X hT => ?_)
  · unfold T_X3_countBreaks at hT
    split at hT
    · rename_i a b
      obtain ⟨hk, hp⟩ := hT
      obtain ⟨kA, kb, kn⟩ := hk
      have hloop := Go.loop (z := z) (cells := 2) (slots := 13) (pc := 14) (fun n ls st h' => ∃ i c f r h1 o, i + n = pnN h a ∧ ls = [some (.ref a), some (.ref b), some (.ref r), some (.int c), some (.int (nI i)), o] ∧ st = [] ∧ h' = hrow h1 151 b f ∧ Ext h h1 ∧ rdOf h h1 a (hI h 322 a 0) r ∧ brkL h a (ordI (rdG h a (hI h 322 a 0)).1) n i (c, f) = brkP h a b) (fun k => wp_X3_countBreaks_14 P X k) (fun k hgo => go_X3_countBreaks_14 hz hr hgo) (by
        rintro n ls st h' ⟨i, c, f, r, h1, o, hi, rfl, rfl, rfl, hE, hR, hg⟩
        have kb1 := hE.K kb (by decide)
        have kn1 := ((hE.1 b (by rw [kb]; decide)).2.1).trans kn
        obtain ⟨gA, gP, gpn, gR, gv, gB⟩ := row_facts (f := f) kA hE hR kb1
        have gb : hK (hrow h1 151 b f) b = 151 := kb1
        have gn : hN (hrow h1 151 b f) b = 12 := kn1
        have gf : hI (hrow h1 151 b f) 151 b = f := funext fun i => by rw [hI_row, if_pos ⟨rfl, rfl⟩]
        have grow : ∀ f', hrow (hrow h1 151 b f) 151 b f' = hrow h1 151 b f' := fun f' => hrow_2 _ _ _ _ _
        have gfin : n = 0 → P (some (.int c)) (hrow h1 151 b f) := fun e => by
          subst e
          have := hp h1 hE
          rw [← hg] at this
          exact this
        generalize hGe : hrow h1 151 b f = G at *
        obtain ⟨k1, ⟨k2, k3, k4, k5, k6⟩, ⟨k7, k8, k9, k10, k11⟩, k12, k13⟩ := id gA
        have eN : lsz G (dR G 320 a) = pnN G a := rfl
        have eB : lsz G (dR G 321 a) = blN G a := rfl
        have eP : ∀ j, lel G (dR G 320 a) j = pn G a j := fun _ => rfl
        have eL : ∀ j, lel G (dR G 321 a) j = bl G a j := fun _ => rfl
        have eQ : ∀ j, dR G 384 (pn G a j) = pb G a j := fun _ => rfl
        have eR : ∀ j, dR G 131 (bl G a j) = bb G a j := fun _ => rfl
        have gr7 := gR.1.1
        have hge : (nI (pnN G a) ≤ nI i) ↔ ¬ i < pnN G a := by rw [leI (by omega) (by omega)]; omega
        simp only [wp_X3_countBreaks_0, wp_X3_countBreaks_70, wp_X3_countBreaks_14, T_X5_of, T_Jx4a65c_size_8abf5, T_X5_panelAt, T_Jx4a65c_get_915e3, T_X4_countBreaks, i_mmax, i_mmin, i_pushI, i_pushN, i_pushL, i_iload, i_aload, i_istore, i_astore, i_iinc, i_iadd, i_isub, i_imul, i_iand, i_ior, i_ixor, i_ishl, i_ishr, i_iushr, i_idiv, i_i2l, i_lcmp, i_dup, i_pop, i_dupx1, i_dup2, i_ifeq, i_ifne, i_iflt, i_ifge, i_ifgt, i_ifle, i_iceq, i_icne, i_iclt, i_icge, i_icgt, i_icle, i_ifnull, i_aceq, i_getI, i_getR, i_putI, i_putZ, i_putR, i_new, i_newarr, i_ald, i_lald, i_aald, i_alen, i_ast, i_zast, i_last, i_aast, i_aastL, i_cast, i_gste, i_ldcM, i_getC, i_acopy, i_dead, i_objinit, i_callV, i_callS, i_callI, i_iret, i_zret, i_aret, i_vret, i_throw, popN, pushO, lget, lset, isRf_ref, isRf_null, isRf_rf, isC1_int, isC1_ref, isC1_null, isC1_rf, true_and, and_true, List.length_cons, List.length_nil, Nat.reduceAdd, Nat.reduceLeDiff, hK_sI, hN_sI, hR_sI, hI_sI, hK_sR, hN_sR, hR_sR, hI_sR, kC_2, kC_3, kC_4, kC_5, kC_6, kC_7, kC_8, kC_9, kC_10, kC_11, kC_20, kC_21, kC_22, kC_23, i2_0, i1_1, i0_1, i1_0, bI_and, bI_0, Decidable.not_not, not_false_eq_true, not_true_eq_false, forall_const, false_implies, true_implies, hK_copy, hN_copy, hI_copy, hC_sI, hC_sR, hC_new, hK_new, hN_new, hI_new, hR_new, rf_some, rf_none, ex_ref, ex_null, ex_rf, nref_null, rf_null, Nat.reduceEqDiff, reduceCtorEq, false_and, and_false, if_false, if_true, ne_eq, kO_150, kO_151, kO_152, kO_170, kO_180, kO_190, Value.ref.injEq, exists_eq_left', false_or, k1, k2, k3, k4, k7, k8, k9, eN, eB, eP, eL, eQ, eR, hge, gr7, gR]
        refine ⟨fun e => gfin (by omega), fun e => ?_⟩
        rw [gv i (by omega)]
        obtain ⟨k, rfl⟩ : ∃ k, n = k + 1 := ⟨n - 1, by omega⟩
        rw [brkL] at hg
        generalize ordI (rdG h a (hI h 322 a 0)).1 i = x at hg ⊢
        refine ⟨fun e1 => ?_, fun e1 => ⟨fun e2 => ?_, fun e2 => ?_⟩⟩
        · rw [show brkS h a x (c, f) = (c, f) from if_neg (fun z => z.1 e1)] at hg
          exact ⟨k, by omega, i + 1, c, f, r, h1, _, by omega, by rw [nI_1], hGe.symm, hE, hR, hg⟩
        · rw [show brkS h a x (c, f) = (c, f) from if_neg (fun z => absurd z.2 (Int32.not_lt.mpr (by rw [← gP]; exact e2)))] at hg
          exact ⟨k, by omega, i + 1, c, f, r, h1, _, by omega, by rw [nI_1], hGe.symm, hE, hR, hg⟩
        · have e3 : x < nI (pnN h a) := by rw [← gP]; exact Int32.not_le.mp e2
          obtain ⟨y1, y2⟩ := nI_lt8 e1 e3 (by omega)
          have kp : pnOK G (pn G a x.toNatClampNeg) := k6 _ (by omega)
          rw [show brkS h a x (c, f) = (c + sumI (pnB h (pn h a x.toNatClampNeg) f) 12, fun i => if i < 12 then pnW h (pn h a x.toNatClampNeg) f i else f i) from if_pos ⟨e1, e3⟩] at hg
          refine ⟨⟨e1, Int32.not_le.mp e2⟩, kp.1.1, by rw [kp.1.1]; rfl, ⟨kp, gb, gn⟩, k, by omega, i + 1, _, _, r, h1, some (.int x), by omega, ?_, ?_, hE, hR, hg⟩
          · rw [nI_1, gf, gpn, sumI_cg _ _ 12 (fun i hi => (gB _ y1 f i hi).1)]
          · rw [grow, gf, gpn]
            refine hrow_cg _ _ _ (fun i => ?_)
            split
            · next e => exact (gB _ y1 f i e).2
            · rfl)
      refine ⟨_, go_X3_countBreaks_0 hz hr hloop, ?_⟩
      show wp_X3_countBreaks_0 P X _ [some (.ref a), some (.ref b), none, none, none, none] [] h
      have kA1 := kA.1
      have kA12 := kA.2.2.2.1
      simp only [wp_X3_countBreaks_0, wp_X3_countBreaks_70, wp_X3_countBreaks_14, T_X5_of, T_Jx4a65c_size_8abf5, T_X5_panelAt, T_Jx4a65c_get_915e3, T_X4_countBreaks, i_mmax, i_mmin, i_pushI, i_pushN, i_pushL, i_iload, i_aload, i_istore, i_astore, i_iinc, i_iadd, i_isub, i_imul, i_iand, i_ior, i_ixor, i_ishl, i_ishr, i_iushr, i_idiv, i_i2l, i_lcmp, i_dup, i_pop, i_dupx1, i_dup2, i_ifeq, i_ifne, i_iflt, i_ifge, i_ifgt, i_ifle, i_iceq, i_icne, i_iclt, i_icge, i_icgt, i_icle, i_ifnull, i_aceq, i_getI, i_getR, i_putI, i_putZ, i_putR, i_new, i_newarr, i_ald, i_lald, i_aald, i_alen, i_ast, i_zast, i_last, i_aast, i_aastL, i_cast, i_gste, i_ldcM, i_getC, i_acopy, i_dead, i_objinit, i_callV, i_callS, i_callI, i_iret, i_zret, i_aret, i_vret, i_throw, popN, pushO, lget, lset, isRf_ref, isRf_null, isRf_rf, isC1_int, isC1_ref, isC1_null, isC1_rf, true_and, and_true, List.length_cons, List.length_nil, Nat.reduceAdd, Nat.reduceLeDiff, hK_sI, hN_sI, hR_sI, hI_sI, hK_sR, hN_sR, hR_sR, hI_sR, kC_2, kC_3, kC_4, kC_5, kC_6, kC_7, kC_8, kC_9, kC_10, kC_11, kC_20, kC_21, kC_22, kC_23, i2_0, i1_1, i0_1, i1_0, bI_and, bI_0, Decidable.not_not, not_false_eq_true, not_true_eq_false, forall_const, false_implies, true_implies, hK_copy, hN_copy, hI_copy, hC_sI, hC_sR, hC_new, hK_new, hN_new, hI_new, hR_new, rf_some, rf_none, ex_ref, ex_null, ex_rf, nref_null, rf_null, Nat.reduceEqDiff, reduceCtorEq, false_and, and_false, if_false, if_true, ne_eq, kO_150, kO_151, kO_152, kO_170, kO_180, kO_190, Value.ref.injEq, exists_eq_left', false_or, kA1, kA12, kA]
      intro h1 r e1 hr
      exact ⟨pnN h a, 0, 0, hI h1 151 b, r, h1, none, by omega, rfl, (hrow_id h1 151 b).symm, e1, hr, by rw [show hI h1 151 b = hI h 151 b from funext fun i => ((e1.1 b (by rw [kb]; decide)).2.2 _ _).1]⟩
    · exact hT.elim
  · unfold T_X3_countBreaks at hT
    split at hT
    · exact ⟨Nat.le_of_ble_eq_true rfl, by simp [isC1_int, isC1_ref, isC1_null, isC1_rf]⟩
    · exact hT.elim
