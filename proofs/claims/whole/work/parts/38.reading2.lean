def gutS (n : Nat) (B E : Nat → Int32) (s : Int32) (i : Nat) : Int32 := if (s >>> (nI i &&& 31)) &&& 1 = 1 then gut n B E s (E i) else -1
def cutL (n : Nat) (B E : Nat → Int32) (s gr : Int32) : Nat → Nat → Int32 → Int32 → Int32
  | 0, _, b, _ => b
  | k + 1, i, b, bg => if bg < gutS n B E s i ∨ (¬ gutS n B E s i = -1 ∧ gutS n B E s i = bg ∧ (if gr = 0 then E i < b else b < E i)) then cutL n B E s gr k (i + 1) (E i) (gutS n B E s i) else cutL n B E s gr k (i + 1) b bg
noncomputable abbrev cutH (h : hp_T) (r : Nat) (s c : Int32) : Int32 := cutL (pnN h (dR h 448 r)) (pBeg h (dR h 448 r) c) (pEnd h (dR h 448 r) c) s (bI (¬ hI h 449 r 0 = 0 ∧ c = 0)) (pnN h (dR h 448 r)) 0 (-1) (-1)
theorem cutL_t {n : Nat} {B E : Nat → Int32} {s gr g b bg : Int32} {k i : Nat} (hS : gutS n B E s i = g) (c : bg < g ∨ (¬ g = -1 ∧ g = bg ∧ (gr = 0 → E i < b) ∧ (¬ gr = 0 → b < E i))) : cutL n B E s gr (k + 1) i b bg = cutL n B E s gr k (i + 1) (E i) g := by
  subst hS
  rw [cutL]
  refine if_pos (c.imp id (fun z => ⟨z.1, z.2.1, ?_⟩))
  split
  · next y => exact z.2.2.1 y
  · next y => exact z.2.2.2 y
theorem cutL_f {n : Nat} {B E : Nat → Int32} {s gr g b bg : Int32} {k i : Nat} (hS : gutS n B E s i = g) (c : ¬ (bg < g ∨ (¬ g = -1 ∧ g = bg ∧ (gr = 0 → E i < b) ∧ (¬ gr = 0 → b < E i)))) : cutL n B E s gr (k + 1) i b bg = cutL n B E s gr k (i + 1) b bg := by
  subst hS
  rw [cutL]
  refine if_neg (fun z => c (z.imp id (fun z => ⟨z.1, z.2.1, fun y => ?_, fun y => ?_⟩)))
  · have := z.2.2; rw [if_pos y] at this; exact this
  · have := z.2.2; rw [if_neg y] at this; exact this
def endL (E : Nat → Int32) (s line : Int32) : Nat → Nat → Int32 → Int32
  | 0, _, m => m
  | k + 1, i, m => if (s >>> (nI i &&& 31)) &&& 1 = 1 ∧ E i ≤ line then endL E s line k (i + 1) (m ||| 1 <<< (nI i &&& 31)) else endL E s line k (i + 1) m
abbrev endH (h : hp_T) (r : Nat) (s c line : Int32) : Int32 := endL (pEnd h (dR h 448 r) c) s line (pnN h (dR h 448 r)) 0 0
def wp_X5_endingBy_0 (P : Option Value → hp_T → Prop) (X : String → hp_T → Prop) (K6 : KT) : KT :=
  i_pushI 0 (i_istore 4 (i_pushI 0 (i_istore 5 K6)))
set_option maxRecDepth 20000 in
theorem go_X5_endingBy_0 {z : zT} {P : Option Value → hp_T → Prop} {X : String → hp_T → Prop} {K6 : KT} (hz : Cx z cX5_endingBy 6 "Panelry$Reading" "endingBy" 3 0 0) (hr : Rt z (some .int) P X 0 0) (h6 : Go z 0 0 6 K6) : Go z 0 0 0 (wp_X5_endingBy_0 P X K6) := 
  s_iconst hz rfl dX5_endingBy_0 (s_istore hz rfl dX5_endingBy_1 (s_iconst hz rfl dX5_endingBy_3 (s_istore hz rfl dX5_endingBy_4 h6)))
def wp_X5_endingBy_65 (P : Option Value → hp_T → Prop) (X : String → hp_T → Prop) (K6 : KT) : KT :=
  i_iinc 5 1 K6
set_option maxRecDepth 20000 in
theorem go_X5_endingBy_65 {z : zT} {P : Option Value → hp_T → Prop} {X : String → hp_T → Prop} {K6 : KT} (hz : Cx z cX5_endingBy 6 "Panelry$Reading" "endingBy" 3 0 0) (hr : Rt z (some .int) P X 0 0) (h6 : Go z 0 0 6 K6) : Go z 0 0 65 (wp_X5_endingBy_65 P X K6) := 
  s_iinc hz rfl rfl dX5_endingBy_65 (s_goto hz (tgt := 6) rfl dX5_endingBy_68 h6)
def wp_X5_endingBy_6 (P : Option Value → hp_T → Prop) (X : String → hp_T → Prop) (K6 : KT) : KT :=
  i_iload 5 (i_aload 0 (i_getR 7 448 (i_getR 5 320 (i_callV 0 1 T_Jx4a65c_size_8abf5 noX (i_icge (i_iload 4 (i_iret P)) (i_iload 1 (i_iload 5 (i_callS 2 T_X8_isIn noX (i_ifeq (wp_X5_endingBy_65 P X K6)
    (i_aload 0 (i_getR 7 448 (i_getR 5 320 (i_iload 5 (i_callV 1 1 T_Jx4a65c_get_915e3 noX (i_cast 6 (i_getR 6 384 (i_iload 2 (i_callV 1 3 T_X1_endFor noX (i_iload 3 (i_icgt (wp_X5_endingBy_65 P X K6)
    (i_iload 4 (i_pushI 1 (i_iload 5 (i_ishl (i_ior (i_istore 4 (wp_X5_endingBy_65 P X K6)))))))))))))))))))))))))))
set_option maxRecDepth 20000 in
theorem go_X5_endingBy_6 {z : zT} {P : Option Value → hp_T → Prop} {X : String → hp_T → Prop} {K6 : KT} (hz : Cx z cX5_endingBy 6 "Panelry$Reading" "endingBy" 3 0 0) (hr : Rt z (some .int) P X 0 0) (h6 : Go z 0 0 6 K6) : Go z 0 0 6 (wp_X5_endingBy_6 P X K6) := 
  s_iload hz dX5_endingBy_6 (s_aload_n hz rfl dX5_endingBy_8 (fg_RX5_15 hz dX5_endingBy_9 (fg_RX5_77 hz dX5_endingBy_12 (s_callV hz ct_Jx4a65c_size_8abf5 ⟨w182, w115, w32, by decide, by decide, by decide +kernel⟩ w113 w114 cls0 rfl rfl rfl rfl rfl rfl out_no dX5_endingBy_15
    (s_icge hz (tgt := 71) rfl dX5_endingBy_18 (s_iload hz dX5_endingBy_71 (s_iret hz hr rfl rfl dX5_endingBy_73)) (s_iload_n hz rfl dX5_endingBy_21 (s_iload hz dX5_endingBy_22 (s_callSN
    (host := "Panelry") hz ct_X8_isIn (Or.inr rfl) ⟨w185, w29, by decide, by decide, by decide +kernel⟩ w184 rfl rfl rfl rfl out_no dX5_endingBy_24 (s_ifeq hz (tgt := 65) rfl dX5_endingBy_27
    (go_X5_endingBy_65 hz hr h6) (s_aload_n hz rfl dX5_endingBy_30 (fg_RX5_15 hz dX5_endingBy_31 (fg_RX5_77 hz dX5_endingBy_34 (s_iload hz dX5_endingBy_37 (s_callV hz ct_Jx4a65c_get_915e3 ⟨w190, w119, w32, by decide, by decide, by decide +kernel⟩ w117 w118 cls0 rfl rfl rfl rfl rfl rfl out_no dX5_endingBy_39
    (s_cast hz kO_6 rfl cls5 w191 dX5_endingBy_42 (fg_RX5_96 hz dX5_endingBy_45 (s_iload_n hz rfl dX5_endingBy_48 (s_callV hz ct_X1_endFor ⟨w192, w195, w47, by decide, by decide, by decide +kernel⟩ w193 w194 cls2 rfl rfl rfl rfl rfl rfl out_no dX5_endingBy_49
    (s_iload_n hz rfl dX5_endingBy_52 (s_icgt hz (tgt := 65) rfl dX5_endingBy_53 (go_X5_endingBy_65 hz hr h6) (s_iload hz dX5_endingBy_56 (s_iconst hz rfl dX5_endingBy_58 (s_iload hz dX5_endingBy_59
    (s_ishl hz dX5_endingBy_61 (s_ior hz dX5_endingBy_62 (s_istore hz rfl dX5_endingBy_63 (go_X5_endingBy_65 hz hr h6)))))))))))))))))))))))))))

def T_X5_endingBy : PT := fun av h P X => match av with
  | [.ref r, .int s, .int c, .int l] => (rdOK h r) ∧ (P (some (.int (endH h r s c l))) h)
  | _ => False
set_option maxRecDepth 20000 in
theorem ct_X5_endingBy : CT yX5_endingBy cX5_endingBy 6 (some .int) 3 0 0 T_X5_endingBy := by
  refine ct_ofE (by decide) (fun z av h P X hT hz hr => ?_) (fun av h P X hT => ?_)
  · unfold T_X5_endingBy at hT
    split at hT
    · rename_i r s c l
      obtain ⟨hk, hp⟩ := hT
      obtain ⟨⟨r1, r2, r3⟩, ⟨r4, r5, r6⟩, kA⟩ := id hk
      obtain ⟨k1, ⟨k2, k3, k4, k5, k6⟩, ⟨k7, k8, k9, k10, k11⟩, k12, k13⟩ := id kA
      have eN : lsz h (dR h 320 (dR h 448 r)) = pnN h (dR h 448 r) := rfl
      have eB : lsz h (dR h 321 (dR h 448 r)) = blN h (dR h 448 r) := rfl
      have eP : ∀ j, lel h (dR h 320 (dR h 448 r)) j = pn h (dR h 448 r) j := fun _ => rfl
      have eL : ∀ j, lel h (dR h 321 (dR h 448 r)) j = bl h (dR h 448 r) j := fun _ => rfl
      have eQ : ∀ j, dR h 384 (pn h (dR h 448 r) j) = pb h (dR h 448 r) j := fun _ => rfl
      have eR : ∀ j, dR h 131 (bl h (dR h 448 r) j) = bb h (dR h 448 r) j := fun _ => rfl
      have hloop := Go.loop (z := z) (cells := 0) (slots := 0) (pc := 6) (fun n ls st h' => ∃ i m, i + n = pnN h (dR h 448 r) ∧ ls = [some (.ref r), some (.int s), some (.int c), some (.int l), some (.int m), some (.int (nI i))] ∧ st = [] ∧ h' = h ∧ endL (pEnd h (dR h 448 r) c) s l n i m = endH h r s c l) (fun k => wp_X5_endingBy_6 P X k) (fun k hgo => go_X5_endingBy_6 hz hr hgo) (by
        rintro n ls st h' ⟨i, m, hi, rfl, rfl, rfl, hg⟩
        have hcl : (nI i).toNatClampNeg = i := nI_clamp (by omega)
        have hge : (nI (pnN h' (dR h' 448 r)) ≤ nI i) ↔ ¬ i < pnN h' (dR h' 448 r) := by rw [leI (by omega) (by omega)]; omega
        simp only [wp_X5_endingBy_0, wp_X5_endingBy_65, wp_X5_endingBy_6, T_Jx4a65c_size_8abf5, T_X8_isIn, T_Jx4a65c_get_915e3, T_X1_endFor, i_mmax, i_mmin, i_pushI, i_pushN, i_pushL, i_iload, i_aload, i_istore, i_astore, i_iinc, i_iadd, i_isub, i_imul, i_iand, i_ior, i_ixor, i_ishl, i_ishr, i_iushr, i_idiv, i_i2l, i_lcmp, i_dup, i_pop, i_dupx1, i_dup2, i_ifeq, i_ifne, i_iflt, i_ifge, i_ifgt, i_ifle, i_iceq, i_icne, i_iclt, i_icge, i_icgt, i_icle, i_ifnull, i_aceq, i_getI, i_getR, i_putI, i_putZ, i_putR, i_new, i_newarr, i_ald, i_lald, i_aald, i_alen, i_ast, i_zast, i_last, i_aast, i_aastL, i_cast, i_gste, i_ldcM, i_getC, i_acopy, i_dead, i_objinit, i_callV, i_callS, i_callI, i_iret, i_zret, i_aret, i_vret, i_throw, popN, pushO, lget, lset, isRf_ref, isRf_null, isRf_rf, isC1_int, isC1_ref, isC1_null, isC1_rf, true_and, and_true, List.length_cons, List.length_nil, Nat.reduceAdd, Nat.reduceLeDiff, hK_sI, hN_sI, hR_sI, hI_sI, hK_sR, hN_sR, hR_sR, hI_sR, kC_2, kC_3, kC_4, kC_5, kC_6, kC_7, kC_8, kC_9, kC_10, kC_11, kC_20, kC_21, kC_22, kC_23, i2_0, i1_1, i0_1, i1_0, bI_and, bI_0, Decidable.not_not, not_false_eq_true, not_true_eq_false, forall_const, false_implies, true_implies, hK_copy, hN_copy, hI_copy, hC_sI, hC_sR, hC_new, hK_new, hN_new, hI_new, hR_new, rf_some, rf_none, ex_ref, ex_null, ex_rf, nref_null, rf_null, Nat.reduceEqDiff, reduceCtorEq, false_and, and_false, if_false, if_true, ne_eq, kO_150, kO_151, kO_152, kO_170, kO_180, kO_190, Value.ref.injEq, exists_eq_left', false_or, r1, r2, r4, r5, r6, k1, k2, k3, k4, k7, k8, k9, eN, eB, eP, eL, eQ, eR, hge, hcl, ltI (show i < 1000 by omega) (show pnN h' (dR h' 448 r) < 1000 by omega)]
        refine ⟨fun e => ?_, fun e => ⟨fun e3 => ?_, fun e3 => ?_⟩⟩
        · obtain rfl : n = 0 := by omega
          rw [← hg] at hp; exact hp
        · obtain ⟨k, rfl⟩ : ∃ k, n = k + 1 := ⟨n - 1, by omega⟩
          rw [endL, if_neg (fun z => e3 z.1)] at hg
          exact ⟨k, by omega, i + 1, m, by omega, by rw [nI_1], hg⟩
        · obtain ⟨q1, q2, q3⟩ := k6 i e
          have q0 := q1.1
          have q4 := q2.1
          have q5 := q2.2
          rw [eQ] at q4 q5
          have eEn : (if c = 0 then hI h' 192 (pb h' (dR h' 448 r) i) 0 + hI h' 194 (pb h' (dR h' 448 r) i) 0 else hI h' 193 (pb h' (dR h' 448 r) i) 0 + hI h' 195 (pb h' (dR h' 448 r) i) 0) = pEnd h' (dR h' 448 r) c i := (if_pos e).symm
          simp only [wp_X5_endingBy_0, wp_X5_endingBy_65, wp_X5_endingBy_6, T_Jx4a65c_size_8abf5, T_X8_isIn, T_Jx4a65c_get_915e3, T_X1_endFor, i_mmax, i_mmin, i_pushI, i_pushN, i_pushL, i_iload, i_aload, i_istore, i_astore, i_iinc, i_iadd, i_isub, i_imul, i_iand, i_ior, i_ixor, i_ishl, i_ishr, i_iushr, i_idiv, i_i2l, i_lcmp, i_dup, i_pop, i_dupx1, i_dup2, i_ifeq, i_ifne, i_iflt, i_ifge, i_ifgt, i_ifle, i_iceq, i_icne, i_iclt, i_icge, i_icgt, i_icle, i_ifnull, i_aceq, i_getI, i_getR, i_putI, i_putZ, i_putR, i_new, i_newarr, i_ald, i_lald, i_aald, i_alen, i_ast, i_zast, i_last, i_aast, i_aastL, i_cast, i_gste, i_ldcM, i_getC, i_acopy, i_dead, i_objinit, i_callV, i_callS, i_callI, i_iret, i_zret, i_aret, i_vret, i_throw, popN, pushO, lget, lset, isRf_ref, isRf_null, isRf_rf, isC1_int, isC1_ref, isC1_null, isC1_rf, true_and, and_true, List.length_cons, List.length_nil, Nat.reduceAdd, Nat.reduceLeDiff, hK_sI, hN_sI, hR_sI, hI_sI, hK_sR, hN_sR, hR_sR, hI_sR, kC_2, kC_3, kC_4, kC_5, kC_6, kC_7, kC_8, kC_9, kC_10, kC_11, kC_20, kC_21, kC_22, kC_23, i2_0, i1_1, i0_1, i1_0, bI_and, bI_0, Decidable.not_not, not_false_eq_true, not_true_eq_false, forall_const, false_implies, true_implies, hK_copy, hN_copy, hI_copy, hC_sI, hC_sR, hC_new, hK_new, hN_new, hI_new, hR_new, rf_some, rf_none, ex_ref, ex_null, ex_rf, nref_null, rf_null, Nat.reduceEqDiff, reduceCtorEq, false_and, and_false, if_false, if_true, ne_eq, kO_150, kO_151, kO_152, kO_170, kO_180, kO_190, Value.ref.injEq, exists_eq_left', false_or, q0, q4, q5, e, eEn]
          obtain ⟨k, rfl⟩ : ∃ k, n = k + 1 := ⟨n - 1, by omega⟩
          rw [endL] at hg
          refine ⟨nI_pos (by omega), fun e4 => ?_, fun e4 => ?_⟩
          · rw [if_neg (fun z => absurd z.2 (Int32.not_le.mpr e4))] at hg
            exact ⟨k, by omega, i + 1, m, by omega, by rw [nI_1], hg⟩
          · rw [if_pos ⟨e3, Int32.not_lt.mp e4⟩] at hg
            exact ⟨k, by omega, i + 1, _, by omega, by rw [nI_1], hg⟩)
      refine ⟨_, go_X5_endingBy_0 hz hr hloop, ?_⟩
      show wp_X5_endingBy_0 P X _ [some (.ref r), some (.int s), some (.int c), some (.int l), none, none] [] h
      simp only [wp_X5_endingBy_0, wp_X5_endingBy_65, wp_X5_endingBy_6, T_Jx4a65c_size_8abf5, T_X8_isIn, T_Jx4a65c_get_915e3, T_X1_endFor, i_mmax, i_mmin, i_pushI, i_pushN, i_pushL, i_iload, i_aload, i_istore, i_astore, i_iinc, i_iadd, i_isub, i_imul, i_iand, i_ior, i_ixor, i_ishl, i_ishr, i_iushr, i_idiv, i_i2l, i_lcmp, i_dup, i_pop, i_dupx1, i_dup2, i_ifeq, i_ifne, i_iflt, i_ifge, i_ifgt, i_ifle, i_iceq, i_icne, i_iclt, i_icge, i_icgt, i_icle, i_ifnull, i_aceq, i_getI, i_getR, i_putI, i_putZ, i_putR, i_new, i_newarr, i_ald, i_lald, i_aald, i_alen, i_ast, i_zast, i_last, i_aast, i_aastL, i_cast, i_gste, i_ldcM, i_getC, i_acopy, i_dead, i_objinit, i_callV, i_callS, i_callI, i_iret, i_zret, i_aret, i_vret, i_throw, popN, pushO, lget, lset, isRf_ref, isRf_null, isRf_rf, isC1_int, isC1_ref, isC1_null, isC1_rf, true_and, and_true, List.length_cons, List.length_nil, Nat.reduceAdd, Nat.reduceLeDiff, hK_sI, hN_sI, hR_sI, hI_sI, hK_sR, hN_sR, hR_sR, hI_sR, kC_2, kC_3, kC_4, kC_5, kC_6, kC_7, kC_8, kC_9, kC_10, kC_11, kC_20, kC_21, kC_22, kC_23, i2_0, i1_1, i0_1, i1_0, bI_and, bI_0, Decidable.not_not, not_false_eq_true, not_true_eq_false, forall_const, false_implies, true_implies, hK_copy, hN_copy, hI_copy, hC_sI, hC_sR, hC_new, hK_new, hN_new, hI_new, hR_new, rf_some, rf_none, ex_ref, ex_null, ex_rf, nref_null, rf_null, Nat.reduceEqDiff, reduceCtorEq, false_and, and_false, if_false, if_true, ne_eq, kO_150, kO_151, kO_152, kO_170, kO_180, kO_190, Value.ref.injEq, exists_eq_left', false_or]
      exact ⟨pnN h (dR h 448 r), 0, 0, by omega, rfl, rfl⟩
    · exact hT.elim
  · unfold T_X5_endingBy at hT
    split at hT
    · exact ⟨Nat.le_of_ble_eq_true rfl, by simp [isC1_int, isC1_ref, isC1_null, isC1_rf]⟩
    · exact hT.elim
def wp_X5_widestCut_16 (P : Option Value → hp_T → Prop) (X : String → hp_T → Prop) (K26 : KT) : KT :=
  i_istore 3 (i_pushI (-1) (i_istore 4 (i_pushI (-1) (i_istore 5 (i_pushI 0 (i_istore 6 K26))))))
set_option maxRecDepth 20000 in
theorem go_X5_widestCut_16 {z : zT} {P : Option Value → hp_T → Prop} {X : String → hp_T → Prop} {K26 : KT} (hz : Cx z cX5_widestCut 10 "Panelry$Reading" "widestCut" 4 0 0) (hr : Rt z (some .int) P X 0 0) (h26 : Go z 0 0 26 K26) : Go z 0 0 16 (wp_X5_widestCut_16 P X K26) := 
  s_istore_n hz rfl rfl dX5_widestCut_16 (s_iconst hz rfl dX5_widestCut_17 (s_istore hz rfl dX5_widestCut_18 (s_iconst hz rfl dX5_widestCut_20 (s_istore hz rfl dX5_widestCut_21 (s_iconst hz rfl dX5_widestCut_23
    (s_istore hz rfl dX5_widestCut_24 h26))))))
def wp_X5_widestCut_15 (P : Option Value → hp_T → Prop) (X : String → hp_T → Prop) (K26 : KT) : KT :=
  i_pushI 0 (wp_X5_widestCut_16 P X K26)
set_option maxRecDepth 20000 in
theorem go_X5_widestCut_15 {z : zT} {P : Option Value → hp_T → Prop} {X : String → hp_T → Prop} {K26 : KT} (hz : Cx z cX5_widestCut 10 "Panelry$Reading" "widestCut" 4 0 0) (hr : Rt z (some .int) P X 0 0) (h26 : Go z 0 0 26 K26) : Go z 0 0 15 (wp_X5_widestCut_15 P X K26) := 
  s_iconst hz rfl dX5_widestCut_15 (go_X5_widestCut_16 hz hr h26)
def wp_X5_widestCut_0 (P : Option Value → hp_T → Prop) (X : String → hp_T → Prop) (K26 : KT) : KT :=
  i_aload 0 (i_getI 7 449 (i_ifeq (wp_X5_widestCut_15 P X K26) (i_iload 2 (i_ifne (wp_X5_widestCut_15 P X K26) (i_pushI 1 (wp_X5_widestCut_16 P X K26))))))
set_option maxRecDepth 20000 in
theorem go_X5_widestCut_0 {z : zT} {P : Option Value → hp_T → Prop} {X : String → hp_T → Prop} {K26 : KT} (hz : Cx z cX5_widestCut 10 "Panelry$Reading" "widestCut" 4 0 0) (hr : Rt z (some .int) P X 0 0) (h26 : Go z 0 0 26 K26) : Go z 0 0 0 (wp_X5_widestCut_0 P X K26) := 
  s_aload_n hz rfl dX5_widestCut_0 (fg_RX5_19 hz dX5_widestCut_1 (s_ifeq hz (tgt := 15) rfl dX5_widestCut_4 (go_X5_widestCut_15 hz hr h26) (s_iload_n hz rfl dX5_widestCut_7 (s_ifne hz
    (tgt := 15) rfl dX5_widestCut_8 (go_X5_widestCut_15 hz hr h26) (s_iconst hz rfl dX5_widestCut_11 (s_goto hz (tgt := 16) rfl dX5_widestCut_12 (go_X5_widestCut_16 hz hr h26)))))))
def wp_X5_widestCut_154 (P : Option Value → hp_T → Prop) (X : String → hp_T → Prop) (K26 : KT) : KT :=
  i_iinc 6 1 K26
set_option maxRecDepth 20000 in
theorem go_X5_widestCut_154 {z : zT} {P : Option Value → hp_T → Prop} {X : String → hp_T → Prop} {K26 : KT} (hz : Cx z cX5_widestCut 10 "Panelry$Reading" "widestCut" 4 0 0) (hr : Rt z (some .int) P X 0 0) (h26 : Go z 0 0 26 K26) : Go z 0 0 154 (wp_X5_widestCut_154 P X K26) := 
  s_iinc hz rfl rfl dX5_widestCut_154 (s_goto hz (tgt := 26) rfl dX5_widestCut_157 h26)
def wp_X5_widestCut_146 (P : Option Value → hp_T → Prop) (X : String → hp_T → Prop) (K26 : KT) : KT :=
  i_iload 7 (i_istore 4 (i_iload 8 (i_istore 5 (wp_X5_widestCut_154 P X K26))))
set_option maxRecDepth 20000 in
theorem go_X5_widestCut_146 {z : zT} {P : Option Value → hp_T → Prop} {X : String → hp_T → Prop} {K26 : KT} (hz : Cx z cX5_widestCut 10 "Panelry$Reading" "widestCut" 4 0 0) (hr : Rt z (some .int) P X 0 0) (h26 : Go z 0 0 26 K26) : Go z 0 0 146 (wp_X5_widestCut_146 P X K26) := 
  s_iload hz dX5_widestCut_146 (s_istore hz rfl dX5_widestCut_148 (s_iload hz dX5_widestCut_150 (s_istore hz rfl dX5_widestCut_152 (go_X5_widestCut_154 hz hr h26))))
def wp_X5_widestCut_119 (P : Option Value → hp_T → Prop) (X : String → hp_T → Prop) (K26 : KT) : KT :=
  i_istore 9 (i_iload 8 (i_iload 5 (i_icgt (wp_X5_widestCut_146 P X K26) (i_iload 8 (i_pushI (-1) (i_iceq (wp_X5_widestCut_154 P X K26) (i_iload 8 (i_iload 5 (i_icne (wp_X5_widestCut_154 P X K26)
    (i_iload 9 (i_ifeq (wp_X5_widestCut_154 P X K26) (wp_X5_widestCut_146 P X K26))))))))))))
set_option maxRecDepth 20000 in
theorem go_X5_widestCut_119 {z : zT} {P : Option Value → hp_T → Prop} {X : String → hp_T → Prop} {K26 : KT} (hz : Cx z cX5_widestCut 10 "Panelry$Reading" "widestCut" 4 0 0) (hr : Rt z (some .int) P X 0 0) (h26 : Go z 0 0 26 K26) : Go z 0 0 119 (wp_X5_widestCut_119 P X K26) := 
  s_istore hz rfl dX5_widestCut_119 (s_iload hz dX5_widestCut_121 (s_iload hz dX5_widestCut_123 (s_icgt hz (tgt := 146) rfl dX5_widestCut_125 (go_X5_widestCut_146 hz hr h26) (s_iload hz dX5_widestCut_128
    (s_iconst hz rfl dX5_widestCut_130 (s_iceq hz (tgt := 154) rfl dX5_widestCut_131 (go_X5_widestCut_154 hz hr h26) (s_iload hz dX5_widestCut_134 (s_iload hz dX5_widestCut_136 (s_icne hz
    (tgt := 154) rfl dX5_widestCut_138 (go_X5_widestCut_154 hz hr h26) (s_iload hz dX5_widestCut_141 (s_ifeq hz (tgt := 154) rfl dX5_widestCut_143 (go_X5_widestCut_154 hz hr h26) (go_X5_widestCut_146 hz hr h26))))))))))))
def wp_X5_widestCut_86 (P : Option Value → hp_T → Prop) (X : String → hp_T → Prop) (K26 : KT) : KT :=
  i_istore 8 (i_iload 3 (i_ifeq (i_iload 7 (i_iload 4 (i_icge (i_pushI 0 (wp_X5_widestCut_119 P X K26)) (i_pushI 1 (wp_X5_widestCut_119 P X K26))))) (i_iload 7 (i_iload 4 (i_icle (i_pushI 0
    (wp_X5_widestCut_119 P X K26)) (i_pushI 1 (wp_X5_widestCut_119 P X K26)))))))
set_option maxRecDepth 20000 in
theorem go_X5_widestCut_86 {z : zT} {P : Option Value → hp_T → Prop} {X : String → hp_T → Prop} {K26 : KT} (hz : Cx z cX5_widestCut 10 "Panelry$Reading" "widestCut" 4 0 0) (hr : Rt z (some .int) P X 0 0) (h26 : Go z 0 0 26 K26) : Go z 0 0 86 (wp_X5_widestCut_86 P X K26) := 
  s_istore hz rfl dX5_widestCut_86 (s_iload_n hz rfl dX5_widestCut_88 (s_ifeq hz (tgt := 107) rfl dX5_widestCut_89 (s_iload hz dX5_widestCut_107 (s_iload hz dX5_widestCut_109 (s_icge hz
    (tgt := 118) rfl dX5_widestCut_111 (s_iconst hz rfl dX5_widestCut_118 (go_X5_widestCut_119 hz hr h26)) (s_iconst hz rfl dX5_widestCut_114 (s_goto hz (tgt := 119) rfl dX5_widestCut_115
    (go_X5_widestCut_119 hz hr h26)))))) (s_iload hz dX5_widestCut_92 (s_iload hz dX5_widestCut_94 (s_icle hz (tgt := 103) rfl dX5_widestCut_96 (s_iconst hz rfl dX5_widestCut_103 (s_goto hz
    (tgt := 119) rfl dX5_widestCut_104 (go_X5_widestCut_119 hz hr h26))) (s_iconst hz rfl dX5_widestCut_99 (s_goto hz (tgt := 119) rfl dX5_widestCut_100 (go_X5_widestCut_119 hz hr h26))))))))
def wp_X5_widestCut_26 (P : Option Value → hp_T → Prop) (X : String → hp_T → Prop) (K26 : KT) : KT :=
  i_iload 6 (i_aload 0 (i_getR 7 448 (i_getR 5 320 (i_callV 0 1 T_Jx4a65c_size_8abf5 noX (i_icge (i_iload 4 (i_iret P)) (i_aload 0 (i_getR 7 448 (i_getR 5 320 (i_iload 6 (i_callV 1 1 T_Jx4a65c_get_915e3 noX
    (i_cast 6 (i_getR 6 384 (i_iload 2 (i_callV 1 3 T_X1_endFor noX (i_istore 7 (i_iload 1 (i_iload 6 (i_callS 2 T_X8_isIn noX (i_ifeq (i_pushI (-1) (wp_X5_widestCut_86 P X K26)) (i_aload 0
    (i_iload 1 (i_iload 2 (i_iload 7 (i_callV 3 7 T_X5_gutterAt noX (wp_X5_widestCut_86 P X K26)))))))))))))))))))))))))
set_option maxRecDepth 20000 in
theorem go_X5_widestCut_26 {z : zT} {P : Option Value → hp_T → Prop} {X : String → hp_T → Prop} {K26 : KT} (hz : Cx z cX5_widestCut 10 "Panelry$Reading" "widestCut" 4 0 0) (hr : Rt z (some .int) P X 0 0) (h26 : Go z 0 0 26 K26) : Go z 0 0 26 (wp_X5_widestCut_26 P X K26) := 
  s_iload hz dX5_widestCut_26 (s_aload_n hz rfl dX5_widestCut_28 (fg_RX5_15 hz dX5_widestCut_29 (fg_RX5_77 hz dX5_widestCut_32 (s_callV hz ct_Jx4a65c_size_8abf5 ⟨w182, w115, w32, by decide, by decide, by decide +kernel⟩ w113 w114 cls0 rfl rfl rfl rfl rfl rfl out_no dX5_widestCut_35
    (s_icge hz (tgt := 160) rfl dX5_widestCut_38 (s_iload hz dX5_widestCut_160 (s_iret hz hr rfl rfl dX5_widestCut_162)) (s_aload_n hz rfl dX5_widestCut_41 (fg_RX5_15 hz dX5_widestCut_42
    (fg_RX5_77 hz dX5_widestCut_45 (s_iload hz dX5_widestCut_48 (s_callV hz ct_Jx4a65c_get_915e3 ⟨w190, w119, w32, by decide, by decide, by decide +kernel⟩ w117 w118 cls0 rfl rfl rfl rfl rfl rfl out_no dX5_widestCut_50
    (s_cast hz kO_6 rfl cls5 w191 dX5_widestCut_53 (fg_RX5_96 hz dX5_widestCut_56 (s_iload_n hz rfl dX5_widestCut_59 (s_callV hz ct_X1_endFor ⟨w192, w195, w47, by decide, by decide, by decide +kernel⟩ w193 w194 cls2 rfl rfl rfl rfl rfl rfl out_no dX5_widestCut_60
    (s_istore hz rfl dX5_widestCut_63 (s_iload_n hz rfl dX5_widestCut_65 (s_iload hz dX5_widestCut_66 (s_callSN (host := "Panelry") hz ct_X8_isIn (Or.inr rfl) ⟨w185, w29, by decide, by decide, by decide +kernel⟩ w184 rfl rfl rfl rfl out_no dX5_widestCut_68
    (s_ifeq hz (tgt := 85) rfl dX5_widestCut_71 (s_iconst hz rfl dX5_widestCut_85 (go_X5_widestCut_86 hz hr h26)) (s_aload_n hz rfl dX5_widestCut_74 (s_iload_n hz rfl dX5_widestCut_75 (s_iload_n hz rfl dX5_widestCut_76
    (s_iload hz dX5_widestCut_77 (s_callV hz ct_X5_gutterAt ⟨w196, w199, w49, by decide, by decide, by decide +kernel⟩ w198 w3 cls6 rfl rfl rfl rfl rfl rfl out_no dX5_widestCut_79 (s_goto hz
    (tgt := 86) rfl dX5_widestCut_82 (go_X5_widestCut_86 hz hr h26))))))))))))))))))))))))))

def T_X5_widestCut : PT := fun av h P X => match av with
  | [.ref r, .int s, .int c] => (rdOK h r) ∧ (P (some (.int (cutH h r s c))) h)
  | _ => False
set_option maxRecDepth 20000 in
theorem ct_X5_widestCut : CT yX5_widestCut cX5_widestCut 10 (some .int) 4 0 0 T_X5_widestCut := by
  refine ct_ofE (by decide) (fun z av h P X hT hz hr => ?_) (fun av h P X hT => ?_)
  · unfold T_X5_widestCut at hT
    split at hT
    · rename_i r s c
      obtain ⟨hk, hp⟩ := hT
      obtain ⟨⟨r1, r2, r3⟩, ⟨r4, r5, r6⟩, kA⟩ := id hk
      obtain ⟨k1, ⟨k2, k3, k4, k5, k6⟩, ⟨k7, k8, k9, k10, k11⟩, k12, k13⟩ := id kA
      have eN : lsz h (dR h 320 (dR h 448 r)) = pnN h (dR h 448 r) := rfl
      have eB : lsz h (dR h 321 (dR h 448 r)) = blN h (dR h 448 r) := rfl
      have eP : ∀ j, lel h (dR h 320 (dR h 448 r)) j = pn h (dR h 448 r) j := fun _ => rfl
      have eL : ∀ j, lel h (dR h 321 (dR h 448 r)) j = bl h (dR h 448 r) j := fun _ => rfl
      have eQ : ∀ j, dR h 384 (pn h (dR h 448 r) j) = pb h (dR h 448 r) j := fun _ => rfl
      have eR : ∀ j, dR h 131 (bl h (dR h 448 r) j) = bb h (dR h 448 r) j := fun _ => rfl
      have hloop := Go.loop (z := z) (cells := 0) (slots := 0) (pc := 26) (fun n ls st h' => ∃ i b bg o1 o2 o3, i + n = pnN h (dR h 448 r) ∧ ls = [some (.ref r), some (.int s), some (.int c), some (.int (bI (¬ hI h 449 r 0 = 0 ∧ c = 0))), some (.int b), some (.int bg), some (.int (nI i)), o1, o2, o3] ∧ st = [] ∧ h' = h ∧ cutL (pnN h (dR h 448 r)) (pBeg h (dR h 448 r) c) (pEnd h (dR h 448 r) c) s (bI (¬ hI h 449 r 0 = 0 ∧ c = 0)) n i b bg = cutH h r s c) (fun k => wp_X5_widestCut_26 P X k) (fun k hgo => go_X5_widestCut_26 hz hr hgo) (by
        rintro n ls st h' ⟨i, b, bg, o1, o2, o3, hi, rfl, rfl, rfl, hg⟩
        have hcl : (nI i).toNatClampNeg = i := nI_clamp (by omega)
        have hge : (nI (pnN h' (dR h' 448 r)) ≤ nI i) ↔ ¬ i < pnN h' (dR h' 448 r) := by rw [leI (by omega) (by omega)]; omega
        generalize hgr : bI (¬ hI h' 449 r 0 = 0 ∧ c = 0) = gr at hg ⊢
        simp only [wp_X5_widestCut_16, wp_X5_widestCut_15, wp_X5_widestCut_0, wp_X5_widestCut_154, wp_X5_widestCut_146, wp_X5_widestCut_119, wp_X5_widestCut_86, wp_X5_widestCut_26, T_Jx4a65c_size_8abf5, T_Jx4a65c_get_915e3, T_X1_endFor, T_X8_isIn, T_X5_gutterAt, i_mmax, i_mmin, i_pushI, i_pushN, i_pushL, i_iload, i_aload, i_istore, i_astore, i_iinc, i_iadd, i_isub, i_imul, i_iand, i_ior, i_ixor, i_ishl, i_ishr, i_iushr, i_idiv, i_i2l, i_lcmp, i_dup, i_pop, i_dupx1, i_dup2, i_ifeq, i_ifne, i_iflt, i_ifge, i_ifgt, i_ifle, i_iceq, i_icne, i_iclt, i_icge, i_icgt, i_icle, i_ifnull, i_aceq, i_getI, i_getR, i_putI, i_putZ, i_putR, i_new, i_newarr, i_ald, i_lald, i_aald, i_alen, i_ast, i_zast, i_last, i_aast, i_aastL, i_cast, i_gste, i_ldcM, i_getC, i_acopy, i_dead, i_objinit, i_callV, i_callS, i_callI, i_iret, i_zret, i_aret, i_vret, i_throw, popN, pushO, lget, lset, isRf_ref, isRf_null, isRf_rf, isC1_int, isC1_ref, isC1_null, isC1_rf, true_and, and_true, List.length_cons, List.length_nil, Nat.reduceAdd, Nat.reduceLeDiff, hK_sI, hN_sI, hR_sI, hI_sI, hK_sR, hN_sR, hR_sR, hI_sR, kC_2, kC_3, kC_4, kC_5, kC_6, kC_7, kC_8, kC_9, kC_10, kC_11, kC_20, kC_21, kC_22, kC_23, i2_0, i1_1, i0_1, i1_0, bI_and, bI_0, Decidable.not_not, not_false_eq_true, not_true_eq_false, forall_const, false_implies, true_implies, hK_copy, hN_copy, hI_copy, hC_sI, hC_sR, hC_new, hK_new, hN_new, hI_new, hR_new, rf_some, rf_none, ex_ref, ex_null, ex_rf, nref_null, rf_null, Nat.reduceEqDiff, reduceCtorEq, false_and, and_false, if_false, if_true, ne_eq, kO_150, kO_151, kO_152, kO_170, kO_180, kO_190, Value.ref.injEq, exists_eq_left', false_or, r1, r2, r4, r5, r6, k1, k2, k3, k4, k7, k8, k9, eN, eB, eP, eL, eQ, eR, hge, hcl, ltI (show i < 1000 by omega) (show pnN h' (dR h' 448 r) < 1000 by omega)]
        refine ⟨fun e => ?_, fun e => ?_⟩
        · obtain rfl : n = 0 := by omega
          have hg2 : b = cutH h' r s c := hg
          rw [← hg2] at hp; exact hp
        · obtain ⟨q1, q2, q3⟩ := k6 i e
          have q0 := q1.1
          have q4 := q2.1
          have q5 := q2.2
          rw [eQ] at q4 q5
          have eEn : (if c = 0 then hI h' 192 (pb h' (dR h' 448 r) i) 0 + hI h' 194 (pb h' (dR h' 448 r) i) 0 else hI h' 193 (pb h' (dR h' 448 r) i) 0 + hI h' 195 (pb h' (dR h' 448 r) i) 0) = pEnd h' (dR h' 448 r) c i := (if_pos e).symm
          simp only [wp_X5_widestCut_16, wp_X5_widestCut_15, wp_X5_widestCut_0, wp_X5_widestCut_154, wp_X5_widestCut_146, wp_X5_widestCut_119, wp_X5_widestCut_86, wp_X5_widestCut_26, T_Jx4a65c_size_8abf5, T_Jx4a65c_get_915e3, T_X1_endFor, T_X8_isIn, T_X5_gutterAt, i_mmax, i_mmin, i_pushI, i_pushN, i_pushL, i_iload, i_aload, i_istore, i_astore, i_iinc, i_iadd, i_isub, i_imul, i_iand, i_ior, i_ixor, i_ishl, i_ishr, i_iushr, i_idiv, i_i2l, i_lcmp, i_dup, i_pop, i_dupx1, i_dup2, i_ifeq, i_ifne, i_iflt, i_ifge, i_ifgt, i_ifle, i_iceq, i_icne, i_iclt, i_icge, i_icgt, i_icle, i_ifnull, i_aceq, i_getI, i_getR, i_putI, i_putZ, i_putR, i_new, i_newarr, i_ald, i_lald, i_aald, i_alen, i_ast, i_zast, i_last, i_aast, i_aastL, i_cast, i_gste, i_ldcM, i_getC, i_acopy, i_dead, i_objinit, i_callV, i_callS, i_callI, i_iret, i_zret, i_aret, i_vret, i_throw, popN, pushO, lget, lset, isRf_ref, isRf_null, isRf_rf, isC1_int, isC1_ref, isC1_null, isC1_rf, true_and, and_true, List.length_cons, List.length_nil, Nat.reduceAdd, Nat.reduceLeDiff, hK_sI, hN_sI, hR_sI, hI_sI, hK_sR, hN_sR, hR_sR, hI_sR, kC_2, kC_3, kC_4, kC_5, kC_6, kC_7, kC_8, kC_9, kC_10, kC_11, kC_20, kC_21, kC_22, kC_23, i2_0, i1_1, i0_1, i1_0, bI_and, bI_0, Decidable.not_not, not_false_eq_true, not_true_eq_false, forall_const, false_implies, true_implies, hK_copy, hN_copy, hI_copy, hC_sI, hC_sR, hC_new, hK_new, hN_new, hI_new, hR_new, rf_some, rf_none, ex_ref, ex_null, ex_rf, nref_null, rf_null, Nat.reduceEqDiff, reduceCtorEq, false_and, and_false, if_false, if_true, ne_eq, kO_150, kO_151, kO_152, kO_170, kO_180, kO_190, Value.ref.injEq, exists_eq_left', false_or, q0, q4, q5, e, eEn, hk]
          obtain ⟨k, rfl⟩ : ∃ k, n = k + 1 := ⟨n - 1, by omega⟩
          refine ⟨nI_pos (by omega), fun e3 => ?_, fun e3 => ?_⟩
          · have hS : gutS (pnN h' (dR h' 448 r)) (pBeg h' (dR h' 448 r) c) (pEnd h' (dR h' 448 r) c) s i = -1 := if_neg e3
            have c1 := @cutL_t _ _ _ _ gr _ b bg k _ hS
            have c2 := @cutL_f _ _ _ _ gr _ b bg k _ hS
            rw [hg] at c1 c2
            generalize pEnd h' (dR h' 448 r) c i = x at c1 c2 ⊢
            (repeat' (first | (apply And.intro) | (intro _)))
            all_goals first
              | exact ⟨k, by omega, i + 1, _, _, _, _, _, by omega, by rw [nI_1], (c1 (by clear c1 c2 hg; grind)).symm⟩
              | exact ⟨k, by omega, i + 1, _, _, _, _, _, by omega, by rw [nI_1], (c2 (by clear c1 c2 hg; grind)).symm⟩
          · have hS : gutS (pnN h' (dR h' 448 r)) (pBeg h' (dR h' 448 r) c) (pEnd h' (dR h' 448 r) c) s i = gutH h' r s c (pEnd h' (dR h' 448 r) c i) := if_pos e3
            have c1 := @cutL_t _ _ _ _ gr _ b bg k _ hS
            have c2 := @cutL_f _ _ _ _ gr _ b bg k _ hS
            rw [hg] at c1 c2
            generalize gutH h' r s c (pEnd h' (dR h' 448 r) c i) = g at c1 c2 ⊢
            generalize pEnd h' (dR h' 448 r) c i = x at c1 c2 ⊢
            (repeat' (first | (apply And.intro) | (intro _)))
            all_goals first
              | exact ⟨k, by omega, i + 1, _, _, _, _, _, by omega, by rw [nI_1], (c1 (by clear c1 c2 hg; grind)).symm⟩
              | exact ⟨k, by omega, i + 1, _, _, _, _, _, by omega, by rw [nI_1], (c2 (by clear c1 c2 hg; grind)).symm⟩)
      refine ⟨_, go_X5_widestCut_0 hz hr hloop, ?_⟩
      show wp_X5_widestCut_0 P X _ [some (.ref r), some (.int s), some (.int c), none, none, none, none, none, none, none] [] h
      simp only [wp_X5_widestCut_16, wp_X5_widestCut_15, wp_X5_widestCut_0, wp_X5_widestCut_154, wp_X5_widestCut_146, wp_X5_widestCut_119, wp_X5_widestCut_86, wp_X5_widestCut_26, T_Jx4a65c_size_8abf5, T_Jx4a65c_get_915e3, T_X1_endFor, T_X8_isIn, T_X5_gutterAt, i_mmax, i_mmin, i_pushI, i_pushN, i_pushL, i_iload, i_aload, i_istore, i_astore, i_iinc, i_iadd, i_isub, i_imul, i_iand, i_ior, i_ixor, i_ishl, i_ishr, i_iushr, i_idiv, i_i2l, i_lcmp, i_dup, i_pop, i_dupx1, i_dup2, i_ifeq, i_ifne, i_iflt, i_ifge, i_ifgt, i_ifle, i_iceq, i_icne, i_iclt, i_icge, i_icgt, i_icle, i_ifnull, i_aceq, i_getI, i_getR, i_putI, i_putZ, i_putR, i_new, i_newarr, i_ald, i_lald, i_aald, i_alen, i_ast, i_zast, i_last, i_aast, i_aastL, i_cast, i_gste, i_ldcM, i_getC, i_acopy, i_dead, i_objinit, i_callV, i_callS, i_callI, i_iret, i_zret, i_aret, i_vret, i_throw, popN, pushO, lget, lset, isRf_ref, isRf_null, isRf_rf, isC1_int, isC1_ref, isC1_null, isC1_rf, true_and, and_true, List.length_cons, List.length_nil, Nat.reduceAdd, Nat.reduceLeDiff, hK_sI, hN_sI, hR_sI, hI_sI, hK_sR, hN_sR, hR_sR, hI_sR, kC_2, kC_3, kC_4, kC_5, kC_6, kC_7, kC_8, kC_9, kC_10, kC_11, kC_20, kC_21, kC_22, kC_23, i2_0, i1_1, i0_1, i1_0, bI_and, bI_0, Decidable.not_not, not_false_eq_true, not_true_eq_false, forall_const, false_implies, true_implies, hK_copy, hN_copy, hI_copy, hC_sI, hC_sR, hC_new, hK_new, hN_new, hI_new, hR_new, rf_some, rf_none, ex_ref, ex_null, ex_rf, nref_null, rf_null, Nat.reduceEqDiff, reduceCtorEq, false_and, and_false, if_false, if_true, ne_eq, kO_150, kO_151, kO_152, kO_170, kO_180, kO_190, Value.ref.injEq, exists_eq_left', false_or, r1, r2]
      exact ⟨fun e => ⟨pnN h (dR h 448 r), 0, -1, -1, none, none, none, by omega, by rw [bI_f (fun z => z.1 e)]; rfl, rfl⟩, fun e => ⟨fun e2 => ⟨pnN h (dR h 448 r), 0, -1, -1, none, none, none, by omega, by rw [bI_f (fun z => e2 z.2)]; rfl, rfl⟩, fun e2 => ⟨pnN h (dR h 448 r), 0, -1, -1, none, none, none, by omega, by rw [bI_t ⟨e, e2⟩]; rfl, rfl⟩⟩⟩
    · exact hT.elim
  · unfold T_X5_widestCut at hT
    split at hT
    · exact ⟨Nat.le_of_ble_eq_true rfl, by simp [isC1_int, isC1_ref, isC1_null, isC1_rf]⟩
    · exact hT.elim
theorem o8 : Int32.ofNat 8 = 8 := by decide
def wp_X5_panelAt_23 (P : Option Value → hp_T → Prop) (X : String → hp_T → Prop) : KT :=
  i_iret P
set_option maxRecDepth 20000 in
theorem go_X5_panelAt_23 {z : zT} {P : Option Value → hp_T → Prop} {X : String → hp_T → Prop} (hz : Cx z cX5_panelAt 2 "Panelry$Reading" "panelAt" 0 0 0) (hr : Rt z (some .int) P X 0 0) : Go z 0 0 23 (wp_X5_panelAt_23 P X) := 
  s_iret hz hr rfl rfl dX5_panelAt_23
def wp_X5_panelAt_22 (P : Option Value → hp_T → Prop) (X : String → hp_T → Prop) : KT :=
  i_pushI (-1) (wp_X5_panelAt_23 P X)
set_option maxRecDepth 20000 in
theorem go_X5_panelAt_22 {z : zT} {P : Option Value → hp_T → Prop} {X : String → hp_T → Prop} (hz : Cx z cX5_panelAt 2 "Panelry$Reading" "panelAt" 0 0 0) (hr : Rt z (some .int) P X 0 0) : Go z 0 0 22 (wp_X5_panelAt_22 P X) := 
  s_iconst hz rfl dX5_panelAt_22 (go_X5_panelAt_23 hz hr)
def wp_X5_panelAt_0 (P : Option Value → hp_T → Prop) (X : String → hp_T → Prop) : KT :=
  i_iload 1 (i_iflt (wp_X5_panelAt_22 P X) (i_iload 1 (i_aload 0 (i_getR 7 450 (i_alen (i_icge (wp_X5_panelAt_22 P X) (i_aload 0 (i_getR 7 450 (i_iload 1 (i_ald 150 (wp_X5_panelAt_23 P X)))))))))))
set_option maxRecDepth 20000 in
theorem go_X5_panelAt_0 {z : zT} {P : Option Value → hp_T → Prop} {X : String → hp_T → Prop} (hz : Cx z cX5_panelAt 2 "Panelry$Reading" "panelAt" 0 0 0) (hr : Rt z (some .int) P X 0 0) : Go z 0 0 0 (wp_X5_panelAt_0 P X) := 
  s_iload_n hz rfl dX5_panelAt_0 (s_iflt hz (tgt := 22) rfl dX5_panelAt_1 (go_X5_panelAt_22 hz hr) (s_iload_n hz rfl dX5_panelAt_4 (s_aload_n hz rfl dX5_panelAt_5 (fg_RX5_9 hz dX5_panelAt_6
    (s_alen hz dX5_panelAt_9 (s_icge hz (tgt := 22) rfl dX5_panelAt_10 (go_X5_panelAt_22 hz hr) (s_aload_n hz rfl dX5_panelAt_13 (fg_RX5_9 hz dX5_panelAt_14 (s_iload_n hz rfl dX5_panelAt_17
    (s_iald hz rfl rfl rfl dX5_panelAt_18 (s_goto hz (tgt := 23) rfl dX5_panelAt_19 (go_X5_panelAt_23 hz hr))))))))))))

def T_X5_panelAt : PT := fun av h P X => match av with
  | [.ref r, .int x] => (rdOK h r) ∧ (P (some (.int (if ¬ x < 0 ∧ x < 8 then hI h 150 (dR h 450 r) x.toNatClampNeg else -1))) h)
  | _ => False
set_option maxRecDepth 20000 in
theorem ct_X5_panelAt : CT yX5_panelAt cX5_panelAt 2 (some .int) 0 0 0 T_X5_panelAt := by
  refine ct_ofE (by decide) (fun z av h P X hT hz hr => ?_) (fun av h P X hT => ?_)
  · unfold T_X5_panelAt at hT
    split at hT
    · refine ⟨_, go_X5_panelAt_0 hz hr, ?_⟩
      rename_i r x
      show wp_X5_panelAt_0 P X [some (.ref r), some (.int x)] [] h
      obtain ⟨hk, hp⟩ := hT
      obtain ⟨⟨r1, r2, r3⟩, ⟨r4, r5, r6⟩, -⟩ := hk
      simp only [wp_X5_panelAt_23, wp_X5_panelAt_22, wp_X5_panelAt_0, r1, r4, r5, r6, o8, i_mmax, i_mmin, i_pushI, i_pushN, i_pushL, i_iload, i_aload, i_istore, i_astore, i_iinc, i_iadd, i_isub, i_imul, i_iand, i_ior, i_ixor, i_ishl, i_ishr, i_iushr, i_idiv, i_i2l, i_lcmp, i_dup, i_pop, i_dupx1, i_dup2, i_ifeq, i_ifne, i_iflt, i_ifge, i_ifgt, i_ifle, i_iceq, i_icne, i_iclt, i_icge, i_icgt, i_icle, i_ifnull, i_aceq, i_getI, i_getR, i_putI, i_putZ, i_putR, i_new, i_newarr, i_ald, i_lald, i_aald, i_alen, i_ast, i_zast, i_last, i_aast, i_aastL, i_cast, i_gste, i_ldcM, i_getC, i_acopy, i_dead, i_objinit, i_callV, i_callS, i_callI, i_iret, i_zret, i_aret, i_vret, i_throw, popN, pushO, lget, lset, isRf_ref, isRf_null, isRf_rf, isC1_int, isC1_ref, isC1_null, isC1_rf, true_and, and_true, List.length_cons, List.length_nil, Nat.reduceAdd, Nat.reduceLeDiff, hK_sI, hN_sI, hR_sI, hI_sI, hK_sR, hN_sR, hR_sR, hI_sR, kC_2, kC_3, kC_4, kC_5, kC_6, kC_7, kC_8, kC_9, kC_10, kC_11, kC_20, kC_21, kC_22, kC_23, i2_0, i1_1, i0_1, i1_0, bI_and, bI_0, Decidable.not_not, not_false_eq_true, not_true_eq_false, forall_const, false_implies, true_implies, hK_copy, hN_copy, hI_copy, hC_sI, hC_sR, hC_new, hK_new, hN_new, hI_new, hR_new, rf_some, rf_none, ex_ref, ex_null, ex_rf, nref_null, rf_null, Nat.reduceEqDiff, reduceCtorEq, false_and, and_false, if_false, if_true, ne_eq, kO_150, kO_151, kO_152, kO_170, kO_180, kO_190, Value.ref.injEq, exists_eq_left', false_or]
      refine ⟨fun e => ?_, fun e => ⟨fun e2 => ?_, fun e2 => ?_⟩⟩
      · rw [if_neg (fun z => z.1 e)] at hp; exact hp
      · rw [if_neg (fun z => absurd z.2 (Int32.not_lt.mpr e2))] at hp; exact hp
      · rw [if_pos ⟨e, Int32.not_le.mp e2⟩] at hp
        exact ⟨(vp_in_lt (n := 8) (m := 8) e (Int32.not_le.mp e2) (by omega) (by omega)).1, hp⟩
    · exact hT.elim
  · unfold T_X5_panelAt at hT
    split at hT
    · exact ⟨Nat.le_of_ble_eq_true rfl, by simp [isC1_int, isC1_ref, isC1_null, isC1_rf]⟩
    · exact hT.elim
