theorem le12 {i : Nat} (h : i ≤ 12) : ((12 : Int32) ≤ nI i) ↔ i = 12 := by
  rw [show (12 : Int32) = nI 12 from rfl, nI_leI (by omega) (by omega)]
  omega
theorem pn_null (o : Option Nat) : (¬ o = none) ↔ ∃ c, o = some c := by cases o <;> simp
def wp_X4_hasFaceUnder_0 (P : Option Value → hp_T → Prop) (X : String → hp_T → Prop) (K2 : KT) : KT :=
  i_pushI 0 (i_istore 2 K2)
set_option maxRecDepth 20000 in
theorem go_X4_hasFaceUnder_0 {z : zT} {P : Option Value → hp_T → Prop} {X : String → hp_T → Prop} {K2 : KT} (hz : Cx z cX4_hasFaceUnder 4 "Panelry$Panel" "hasFaceUnder" 3 0 0) (hr : Rt z (some .boolean) P X 0 0) (h2 : Go z 0 0 2 K2) : Go z 0 0 0 (wp_X4_hasFaceUnder_0 P X K2) := 
  s_iconst hz rfl dX4_hasFaceUnder_0 (s_istore_n hz rfl rfl dX4_hasFaceUnder_1 h2)
def wp_X4_hasFaceUnder_35 (P : Option Value → hp_T → Prop) (X : String → hp_T → Prop) (K2 : KT) : KT :=
  i_iinc 2 1 K2
set_option maxRecDepth 20000 in
theorem go_X4_hasFaceUnder_35 {z : zT} {P : Option Value → hp_T → Prop} {X : String → hp_T → Prop} {K2 : KT} (hz : Cx z cX4_hasFaceUnder 4 "Panelry$Panel" "hasFaceUnder" 3 0 0) (hr : Rt z (some .boolean) P X 0 0) (h2 : Go z 0 0 2 K2) : Go z 0 0 35 (wp_X4_hasFaceUnder_35 P X K2) := 
  s_iinc hz rfl rfl dX4_hasFaceUnder_35 (s_goto hz (tgt := 2) rfl dX4_hasFaceUnder_38 h2)
def wp_X4_hasFaceUnder_2 (P : Option Value → hp_T → Prop) (X : String → hp_T → Prop) (K2 : KT) : KT :=
  i_iload 2 (i_aload 0 (i_getR 6 385 (i_alen (i_icge (i_pushI 0 (i_zret P)) (i_aload 0 (i_getR 6 385 (i_iload 2 (i_aald 170 (i_astore 3 (i_aload 3 (i_ifnull (wp_X4_hasFaceUnder_35 P X K2)
    (i_aload 3 (i_getR 4 256 (i_aload 1 (i_callV 1 3 T_X1_overlaps noX (i_ifeq (wp_X4_hasFaceUnder_35 P X K2) (i_pushI 1 (i_zret P))))))))))))))))))
set_option maxRecDepth 20000 in
theorem go_X4_hasFaceUnder_2 {z : zT} {P : Option Value → hp_T → Prop} {X : String → hp_T → Prop} {K2 : KT} (hz : Cx z cX4_hasFaceUnder 4 "Panelry$Panel" "hasFaceUnder" 3 0 0) (hr : Rt z (some .boolean) P X 0 0) (h2 : Go z 0 0 2 K2) : Go z 0 0 2 (wp_X4_hasFaceUnder_2 P X K2) := 
  s_iload_n hz rfl dX4_hasFaceUnder_2 (s_aload_n hz rfl dX4_hasFaceUnder_3 (fg_RX4_11 hz dX4_hasFaceUnder_4 (s_alen hz dX4_hasFaceUnder_7 (s_icge hz (tgt := 41) rfl dX4_hasFaceUnder_8
    (s_iconst hz rfl dX4_hasFaceUnder_41 (s_zret hz hr rfl rfl dX4_hasFaceUnder_42)) (s_aload_n hz rfl dX4_hasFaceUnder_11 (fg_RX4_11 hz dX4_hasFaceUnder_12 (s_iload_n hz rfl dX4_hasFaceUnder_15
    (s_aald hz rfl rfl rfl (Or.inr rfl) dX4_hasFaceUnder_16 (s_astore_n hz rfl rfl dX4_hasFaceUnder_17 (s_aload_n hz rfl dX4_hasFaceUnder_18 (s_ifnull hz (tgt := 35) rfl dX4_hasFaceUnder_19
    (go_X4_hasFaceUnder_35 hz hr h2) (s_aload_n hz rfl dX4_hasFaceUnder_22 (fg_RX4_21 hz dX4_hasFaceUnder_23 (s_aload_n hz rfl dX4_hasFaceUnder_26 (s_callV hz ct_X1_overlaps ⟨w735, w495, w47, by decide, by decide, by decide +kernel⟩ w493 w494 cls2 rfl rfl rfl rfl rfl rfl out_no dX4_hasFaceUnder_27
    (s_ifeq hz (tgt := 35) rfl dX4_hasFaceUnder_30 (go_X4_hasFaceUnder_35 hz hr h2) (s_iconst hz rfl dX4_hasFaceUnder_33 (s_zret hz hr rfl rfl dX4_hasFaceUnder_34))))))))))))))))))

def T_X4_hasFaceUnder : PT := fun av h P X => match av with
  | [.ref a, .ref b] => (pnOK h a ∧ hK h b = 3) ∧ (P (some (.int (bI (∃ i, i < 12 ∧ ∃ c, pnFO h a i = some c ∧ bOv h (dR h 256 c) b)))) h)
  | _ => False
set_option maxRecDepth 20000 in
theorem ct_X4_hasFaceUnder : CT yX4_hasFaceUnder cX4_hasFaceUnder 4 (some .boolean) 3 0 0 T_X4_hasFaceUnder := by
  refine ct_ofE (by decide) (fun z av h P X hT hz hr => ?_) (fun av h P X hT => ?_)
  · unfold T_X4_hasFaceUnder at hT
    split at hT
    · rename_i a b
      obtain ⟨hk, hp⟩ := hT
      have hloop := Go.loop (z := z) (cells := 0) (slots := 0) (pc := 2) (fun n ls st h' => ∃ i o, i + n = 12 ∧ ls = [some (.ref a), some (.ref b), some (.int (nI i)), o] ∧ st = [] ∧ h' = h ∧ ∀ j, j < i → ¬ ∃ c, pnFO h a j = some c ∧ bOv h (dR h 256 c) b) (fun k => wp_X4_hasFaceUnder_2 P X k) (fun k hgo => go_X4_hasFaceUnder_2 hz hr hgo) (by
        rintro n ls st h' ⟨i, o, hi, rfl, rfl, rfl, hno⟩
        obtain ⟨⟨⟨k1, k2, k3, k4⟩, -, k6⟩, kb⟩ := hk
        have hcl : (nI i).toNatClampNeg = i := nI_clamp (by omega)
        have hfo : hR h' 170 (dR h' 385 a) i = pnFO h' a i := rfl
        simp only [wp_X4_hasFaceUnder_0, wp_X4_hasFaceUnder_35, wp_X4_hasFaceUnder_2, T_X1_overlaps, i_mmax, i_mmin, i_pushI, i_pushN, i_pushL, i_iload, i_aload, i_istore, i_astore, i_iinc, i_iadd, i_isub, i_imul, i_iand, i_ior, i_ixor, i_ishl, i_ishr, i_iushr, i_idiv, i_i2l, i_lcmp, i_dup, i_pop, i_dupx1, i_dup2, i_ifeq, i_ifne, i_iflt, i_ifge, i_ifgt, i_ifle, i_iceq, i_icne, i_iclt, i_icge, i_icgt, i_icle, i_ifnull, i_aceq, i_getI, i_getR, i_putI, i_putZ, i_putR, i_new, i_newarr, i_ald, i_lald, i_aald, i_alen, i_ast, i_zast, i_last, i_aast, i_aastL, i_cast, i_gste, i_ldcM, i_getC, i_acopy, i_dead, i_objinit, i_callV, i_callS, i_callI, i_iret, i_zret, i_aret, i_vret, i_throw, popN, pushO, lget, lset, isRf_ref, isRf_null, isRf_rf, isC1_int, isC1_ref, isC1_null, isC1_rf, true_and, and_true, List.length_cons, List.length_nil, Nat.reduceAdd, Nat.reduceLeDiff, hK_sI, hN_sI, hR_sI, hI_sI, hK_sR, hN_sR, hR_sR, hI_sR, kC_2, kC_3, kC_4, kC_5, kC_6, kC_7, kC_8, kC_9, kC_10, kC_11, kC_20, kC_21, kC_22, kC_23, i2_0, i1_1, i0_1, i1_0, bI_and, bI_0, Decidable.not_not, not_false_eq_true, not_true_eq_false, forall_const, false_implies, true_implies, hK_copy, hN_copy, hI_copy, hC_sI, hC_sR, hC_new, hK_new, hN_new, hI_new, hR_new, rf_some, rf_none, ex_ref, ex_null, ex_rf, nref_null, rf_null, Nat.reduceEqDiff, reduceCtorEq, false_and, and_false, if_false, if_true, ne_eq, kO_150, kO_151, kO_152, kO_170, kO_180, kO_190, Value.ref.injEq, exists_eq_left', false_or, k1, k2, k3, k4, kb, o12, hcl, hfo, le12 (show i ≤ 12 by omega)]
        refine ⟨fun e => ?_, fun e => ⟨vp_in_nI (by omega) (by decide), fun e2 => ?_, fun e2 => ?_⟩⟩
        · rw [bI_f (fun ⟨j, hj, z⟩ => hno j (by omega) z)] at hp
          exact hp
        · refine ⟨n - 1, by omega, i + 1, _, by omega, by rw [nI_1], fun j hj z => ?_⟩
          by_cases e3 : j = i
          · subst e3; obtain ⟨c, z1, -⟩ := z; rw [e2] at z1; cases z1
          · exact hno j (by omega) z
        · obtain ⟨c, hc⟩ := (pn_null _).mp e2
          obtain ⟨c1, c2, c3, -⟩ := k6 i (by omega) c hc
          simp only [wp_X4_hasFaceUnder_0, wp_X4_hasFaceUnder_35, wp_X4_hasFaceUnder_2, T_X1_overlaps, i_mmax, i_mmin, i_pushI, i_pushN, i_pushL, i_iload, i_aload, i_istore, i_astore, i_iinc, i_iadd, i_isub, i_imul, i_iand, i_ior, i_ixor, i_ishl, i_ishr, i_iushr, i_idiv, i_i2l, i_lcmp, i_dup, i_pop, i_dupx1, i_dup2, i_ifeq, i_ifne, i_iflt, i_ifge, i_ifgt, i_ifle, i_iceq, i_icne, i_iclt, i_icge, i_icgt, i_icle, i_ifnull, i_aceq, i_getI, i_getR, i_putI, i_putZ, i_putR, i_new, i_newarr, i_ald, i_lald, i_aald, i_alen, i_ast, i_zast, i_last, i_aast, i_aastL, i_cast, i_gste, i_ldcM, i_getC, i_acopy, i_dead, i_objinit, i_callV, i_callS, i_callI, i_iret, i_zret, i_aret, i_vret, i_throw, popN, pushO, lget, lset, isRf_ref, isRf_null, isRf_rf, isC1_int, isC1_ref, isC1_null, isC1_rf, true_and, and_true, List.length_cons, List.length_nil, Nat.reduceAdd, Nat.reduceLeDiff, hK_sI, hN_sI, hR_sI, hI_sI, hK_sR, hN_sR, hR_sR, hI_sR, kC_2, kC_3, kC_4, kC_5, kC_6, kC_7, kC_8, kC_9, kC_10, kC_11, kC_20, kC_21, kC_22, kC_23, i2_0, i1_1, i0_1, i1_0, bI_and, bI_0, Decidable.not_not, not_false_eq_true, not_true_eq_false, forall_const, false_implies, true_implies, hK_copy, hN_copy, hI_copy, hC_sI, hC_sR, hC_new, hK_new, hN_new, hI_new, hR_new, rf_some, rf_none, ex_ref, ex_null, ex_rf, nref_null, rf_null, Nat.reduceEqDiff, reduceCtorEq, false_and, and_false, if_false, if_true, ne_eq, kO_150, kO_151, kO_152, kO_170, kO_180, kO_190, Value.ref.injEq, exists_eq_left', false_or, hc, c1, c2, c3, kb]
          refine ⟨fun e3 => ?_, fun e3 => ?_⟩
          · refine ⟨n - 1, by omega, i + 1, _, by omega, by rw [nI_1], fun j hj z => ?_⟩
            by_cases e4 : j = i
            · subst e4; obtain ⟨c', z1, z2⟩ := z; rw [hc] at z1; cases z1; exact e3 z2
            · exact hno j (by omega) z
          · rw [bI_t ⟨i, by omega, c, hc, e3⟩] at hp
            exact hp)
      refine ⟨_, go_X4_hasFaceUnder_0 hz hr hloop, ?_⟩
      show wp_X4_hasFaceUnder_0 P X _ [some (.ref a), some (.ref b), none, none] [] h
      simp only [wp_X4_hasFaceUnder_0, wp_X4_hasFaceUnder_35, wp_X4_hasFaceUnder_2, T_X1_overlaps, i_mmax, i_mmin, i_pushI, i_pushN, i_pushL, i_iload, i_aload, i_istore, i_astore, i_iinc, i_iadd, i_isub, i_imul, i_iand, i_ior, i_ixor, i_ishl, i_ishr, i_iushr, i_idiv, i_i2l, i_lcmp, i_dup, i_pop, i_dupx1, i_dup2, i_ifeq, i_ifne, i_iflt, i_ifge, i_ifgt, i_ifle, i_iceq, i_icne, i_iclt, i_icge, i_icgt, i_icle, i_ifnull, i_aceq, i_getI, i_getR, i_putI, i_putZ, i_putR, i_new, i_newarr, i_ald, i_lald, i_aald, i_alen, i_ast, i_zast, i_last, i_aast, i_aastL, i_cast, i_gste, i_ldcM, i_getC, i_acopy, i_dead, i_objinit, i_callV, i_callS, i_callI, i_iret, i_zret, i_aret, i_vret, i_throw, popN, pushO, lget, lset, isRf_ref, isRf_null, isRf_rf, isC1_int, isC1_ref, isC1_null, isC1_rf, true_and, and_true, List.length_cons, List.length_nil, Nat.reduceAdd, Nat.reduceLeDiff, hK_sI, hN_sI, hR_sI, hI_sI, hK_sR, hN_sR, hR_sR, hI_sR, kC_2, kC_3, kC_4, kC_5, kC_6, kC_7, kC_8, kC_9, kC_10, kC_11, kC_20, kC_21, kC_22, kC_23, i2_0, i1_1, i0_1, i1_0, bI_and, bI_0, Decidable.not_not, not_false_eq_true, not_true_eq_false, forall_const, false_implies, true_implies, hK_copy, hN_copy, hI_copy, hC_sI, hC_sR, hC_new, hK_new, hN_new, hI_new, hR_new, rf_some, rf_none, ex_ref, ex_null, ex_rf, nref_null, rf_null, Nat.reduceEqDiff, reduceCtorEq, false_and, and_false, if_false, if_true, ne_eq, kO_150, kO_151, kO_152, kO_170, kO_180, kO_190, Value.ref.injEq, exists_eq_left', false_or]
      exact ⟨12, 0, none, by omega, rfl, fun j hj => absurd hj (Nat.not_lt_zero j)⟩
    · exact hT.elim
  · unfold T_X4_hasFaceUnder at hT
    split at hT
    · exact ⟨Nat.le_of_ble_eq_true rfl, by simp [isC1_int, isC1_ref, isC1_null, isC1_rf]⟩
    · exact hT.elim
def sumI (f : Nat → Int32) : Nat → Int32
  | 0 => 0
  | n + 1 => sumI f n + f n
def hrow (h : hp_T) (kd a : Nat) (f : Nat → Int32) : hp_T := (h.1, h.2.1, fun g b i => if g = kd ∧ b = a then f i else h.2.2.1 g b i, h.2.2.2.1, h.2.2.2.2)
theorem hK_row (h : hp_T) (kd a : Nat) (f : Nat → Int32) (b : Nat) : hK (hrow h kd a f) b = hK h b := rfl
theorem hN_row (h : hp_T) (kd a : Nat) (f : Nat → Int32) (b : Nat) : hN (hrow h kd a f) b = hN h b := rfl
theorem hC_row (h : hp_T) (kd a : Nat) (f : Nat → Int32) (i : Nat) : hC (hrow h kd a f) i = hC h i := rfl
theorem hR_row (h : hp_T) (kd a : Nat) (f : Nat → Int32) (g b i : Nat) : hR (hrow h kd a f) g b i = hR h g b i := rfl
theorem hI_row (h : hp_T) (kd a : Nat) (f : Nat → Int32) (g b i : Nat) : hI (hrow h kd a f) g b i = if g = kd ∧ b = a then f i else hI h g b i := rfl
theorem hrow_id (h : hp_T) (kd a : Nat) : hrow h kd a (fun i => hI h kd a i) = h := by
  unfold hrow
  have e1 : (fun g b i => if g = kd ∧ b = a then hI h kd a i else h.2.2.1 g b i) = h.2.2.1 := by
    funext g b i
    split
    · next c => rw [c.1, c.2]; rfl
    · rfl
  rw [e1]
theorem hrow_set (h : hp_T) (kd a j : Nat) (f : Nat → Int32) (v : Int32) : hsI (hrow h kd a f) kd a j v = hrow h kd a (fun i => if i = j then v else f i) := by
  unfold hrow hsI
  refine Prod.ext rfl (Prod.ext rfl (Prod.ext ?_ rfl))
  funext g b i
  dsimp only
  by_cases c : g = kd ∧ b = a
  · obtain ⟨rfl, rfl⟩ := c
    by_cases c2 : i = j <;> simp [c2]
  · have c1 : ¬ (g = kd ∧ b = a ∧ i = j) := fun z => c ⟨z.1, z.2.1⟩
    rw [if_neg c1, if_neg c, if_neg c]
theorem hrow_cg (h : hp_T) (kd a : Nat) {f f' : Nat → Int32} (e : ∀ i, f i = f' i) : hrow h kd a f = hrow h kd a f' := by rw [funext e]
/-- a panel's breaks over what was worn, and what is worn behind it -/
noncomputable def pnB (h : hp_T) (a : Nat) (w : Nat → Int32) (i : Nat) : Int32 := match pnFO h a i with
  | some c => bI (¬ w i = -1 ∧ ¬ w i = hI h 257 c 0 ∧ hI h 258 c 0 = 0)
  | none => 0
def pnW (h : hp_T) (a : Nat) (w : Nat → Int32) (i : Nat) : Int32 := match pnFO h a i with
  | some c => hI h 257 c 0
  | none => w i
def wp_X4_countBreaks_0 (P : Option Value → hp_T → Prop) (X : String → hp_T → Prop) (K4 : KT) : KT :=
  i_pushI 0 (i_istore 2 (i_pushI 0 (i_istore 3 K4)))
set_option maxRecDepth 20000 in
theorem go_X4_countBreaks_0 {z : zT} {P : Option Value → hp_T → Prop} {X : String → hp_T → Prop} {K4 : KT} (hz : Cx z cX4_countBreaks 5 "Panelry$Panel" "countBreaks" 1 0 0) (hr : Rt z (some .int) P X 0 0) (h4 : Go z 0 0 4 K4) : Go z 0 0 0 (wp_X4_countBreaks_0 P X K4) := 
  s_iconst hz rfl dX4_countBreaks_0 (s_istore_n hz rfl rfl dX4_countBreaks_1 (s_iconst hz rfl dX4_countBreaks_2 (s_istore_n hz rfl rfl dX4_countBreaks_3 h4)))
def wp_X4_countBreaks_59 (P : Option Value → hp_T → Prop) (X : String → hp_T → Prop) (K4 : KT) : KT :=
  i_iinc 3 1 K4
set_option maxRecDepth 20000 in
theorem go_X4_countBreaks_59 {z : zT} {P : Option Value → hp_T → Prop} {X : String → hp_T → Prop} {K4 : KT} (hz : Cx z cX4_countBreaks 5 "Panelry$Panel" "countBreaks" 1 0 0) (hr : Rt z (some .int) P X 0 0) (h4 : Go z 0 0 4 K4) : Go z 0 0 59 (wp_X4_countBreaks_59 P X K4) := 
  s_iinc hz rfl rfl dX4_countBreaks_59 (s_goto hz (tgt := 4) rfl dX4_countBreaks_62 h4)
def wp_X4_countBreaks_49 (P : Option Value → hp_T → Prop) (X : String → hp_T → Prop) (K4 : KT) : KT :=
  i_iadd (i_istore 2 (i_aload 1 (i_iload 3 (i_aload 4 (i_getI 4 257 (i_ast 151 (wp_X4_countBreaks_59 P X K4)))))))
set_option maxRecDepth 20000 in
theorem go_X4_countBreaks_49 {z : zT} {P : Option Value → hp_T → Prop} {X : String → hp_T → Prop} {K4 : KT} (hz : Cx z cX4_countBreaks 5 "Panelry$Panel" "countBreaks" 1 0 0) (hr : Rt z (some .int) P X 0 0) (h4 : Go z 0 0 4 K4) : Go z 0 0 49 (wp_X4_countBreaks_49 P X K4) := 
  s_iadd hz dX4_countBreaks_49 (s_istore_n hz rfl rfl dX4_countBreaks_50 (s_aload_n hz rfl dX4_countBreaks_51 (s_iload_n hz rfl dX4_countBreaks_52 (s_aload hz dX4_countBreaks_53 (fg_RX4_32 hz dX4_countBreaks_55
    (s_iast hz rfl rfl rfl rfl dX4_countBreaks_58 (go_X4_countBreaks_59 hz hr h4)))))))
def wp_X4_countBreaks_65 (P : Option Value → hp_T → Prop) (X : String → hp_T → Prop) : KT :=
  i_iload 2 (i_iret P)
set_option maxRecDepth 20000 in
theorem go_X4_countBreaks_65 {z : zT} {P : Option Value → hp_T → Prop} {X : String → hp_T → Prop} (hz : Cx z cX4_countBreaks 5 "Panelry$Panel" "countBreaks" 1 0 0) (hr : Rt z (some .int) P X 0 0) : Go z 0 0 65 (wp_X4_countBreaks_65 P X) := 
  s_iload_n hz rfl dX4_countBreaks_65 (s_iret hz hr rfl rfl dX4_countBreaks_66)
def wp_X4_countBreaks_4 (P : Option Value → hp_T → Prop) (X : String → hp_T → Prop) (K4 : KT) : KT :=
  i_iload 3 (i_aload 0 (i_getR 6 385 (i_alen (i_icge (wp_X4_countBreaks_65 P X) (i_iload 3 (i_aload 1 (i_alen (i_icge (wp_X4_countBreaks_65 P X) (i_aload 0 (i_getR 6 385 (i_iload 3 (i_aald 170
    (i_astore 4 (i_aload 4 (i_ifnull (wp_X4_countBreaks_59 P X K4) (i_iload 2 (i_aload 4 (i_aload 1 (i_iload 3 (i_ald 151 (i_callV 1 4 T_X2_isBreakAfter noX (i_ifeq (i_pushI 0 (wp_X4_countBreaks_49 P X K4))
    (i_pushI 1 (wp_X4_countBreaks_49 P X K4))))))))))))))))))))))))
set_option maxRecDepth 20000 in
theorem go_X4_countBreaks_4 {z : zT} {P : Option Value → hp_T → Prop} {X : String → hp_T → Prop} {K4 : KT} (hz : Cx z cX4_countBreaks 5 "Panelry$Panel" "countBreaks" 1 0 0) (hr : Rt z (some .int) P X 0 0) (h4 : Go z 0 0 4 K4) : Go z 0 0 4 (wp_X4_countBreaks_4 P X K4) := 
  s_iload_n hz rfl dX4_countBreaks_4 (s_aload_n hz rfl dX4_countBreaks_5 (fg_RX4_11 hz dX4_countBreaks_6 (s_alen hz dX4_countBreaks_9 (s_icge hz (tgt := 65) rfl dX4_countBreaks_10 (go_X4_countBreaks_65 hz hr)
    (s_iload_n hz rfl dX4_countBreaks_13 (s_aload_n hz rfl dX4_countBreaks_14 (s_alen hz dX4_countBreaks_15 (s_icge hz (tgt := 65) rfl dX4_countBreaks_16 (go_X4_countBreaks_65 hz hr) (s_aload_n hz rfl dX4_countBreaks_19
    (fg_RX4_11 hz dX4_countBreaks_20 (s_iload_n hz rfl dX4_countBreaks_23 (s_aald hz rfl rfl rfl (Or.inr rfl) dX4_countBreaks_24 (s_astore hz rfl dX4_countBreaks_25 (s_aload hz dX4_countBreaks_27
    (s_ifnull hz (tgt := 59) rfl dX4_countBreaks_29 (go_X4_countBreaks_59 hz hr h4) (s_iload_n hz rfl dX4_countBreaks_32 (s_aload hz dX4_countBreaks_33 (s_aload_n hz rfl dX4_countBreaks_35
    (s_iload_n hz rfl dX4_countBreaks_36 (s_iald hz rfl rfl rfl dX4_countBreaks_37 (s_callV hz ct_X2_isBreakAfter ⟨w221, w224, w51, by decide, by decide, by decide +kernel⟩ w222 w223 cls3 rfl rfl rfl rfl rfl rfl out_no dX4_countBreaks_38
    (s_ifeq hz (tgt := 48) rfl dX4_countBreaks_41 (s_iconst hz rfl dX4_countBreaks_48 (go_X4_countBreaks_49 hz hr h4)) (s_iconst hz rfl dX4_countBreaks_44 (s_goto hz (tgt := 49) rfl dX4_countBreaks_45
    (go_X4_countBreaks_49 hz hr h4)))))))))))))))))))))))))

def T_X4_countBreaks : PT := fun av h P X => match av with
  | [.ref a, .ref b] => (pnOK h a ∧ hK h b = 151 ∧ hN h b = 12) ∧ (P (some (.int (sumI (pnB h a (hI h 151 b)) 12))) (hrow h 151 b (fun i => if i < 12 then pnW h a (hI h 151 b) i else hI h 151 b i)))
  | _ => False
set_option maxRecDepth 20000 in
theorem ct_X4_countBreaks : CT yX4_countBreaks cX4_countBreaks 5 (some .int) 1 0 0 T_X4_countBreaks := by
  refine ct_ofE (by decide) (fun z av h P X hT hz hr => ?_) (fun av h P X hT => ?_)
  · unfold T_X4_countBreaks at hT
    split at hT
    · rename_i a b
      obtain ⟨hk, hp⟩ := hT
      have hloop := Go.loop (z := z) (cells := 0) (slots := 0) (pc := 4) (fun n ls st h' => ∃ i o, i + n = 12 ∧ ls = [some (.ref a), some (.ref b), some (.int (sumI (pnB h a (hI h 151 b)) i)), some (.int (nI i)), o] ∧ st = [] ∧ h' = hrow h 151 b (fun j => if j < i then pnW h a (hI h 151 b) j else hI h 151 b j)) (fun k => wp_X4_countBreaks_4 P X k) (fun k hgo => go_X4_countBreaks_4 hz hr hgo) (by
        rintro n ls st h' ⟨i, o, hi, rfl, rfl, rfl⟩
        obtain ⟨⟨⟨k1, k2, k3, k4⟩, -, k6⟩, kb, kn⟩ := hk
        have hcl : (nI i).toNatClampNeg = i := nI_clamp (by omega)
        have hfo : hR h 170 (dR h 385 a) i = pnFO h a i := rfl
        have hb : kO (hK h b) = none ∧ ¬ hK h b = 0 := by rw [kb]; exact ⟨rfl, by decide⟩
        have k170 : kO 170 = none := rfl
        have k151 : kO 151 = none := rfl
        have n257 : ¬ (257 = 151) := by decide
        have n258 : ¬ (258 = 151) := by decide
        simp only [wp_X4_countBreaks_0, wp_X4_countBreaks_59, wp_X4_countBreaks_49, wp_X4_countBreaks_65, wp_X4_countBreaks_4, T_X2_isBreakAfter, i_mmax, i_mmin, i_pushI, i_pushN, i_pushL, i_iload, i_aload, i_istore, i_astore, i_iinc, i_iadd, i_isub, i_imul, i_iand, i_ior, i_ixor, i_ishl, i_ishr, i_iushr, i_idiv, i_i2l, i_lcmp, i_dup, i_pop, i_dupx1, i_dup2, i_ifeq, i_ifne, i_iflt, i_ifge, i_ifgt, i_ifle, i_iceq, i_icne, i_iclt, i_icge, i_icgt, i_icle, i_ifnull, i_aceq, i_getI, i_getR, i_putI, i_putZ, i_putR, i_new, i_newarr, i_ald, i_lald, i_aald, i_alen, i_ast, i_zast, i_last, i_aast, i_aastL, i_cast, i_gste, i_ldcM, i_getC, i_acopy, i_dead, i_objinit, i_callV, i_callS, i_callI, i_iret, i_zret, i_aret, i_vret, i_throw, popN, pushO, lget, lset, isRf_ref, isRf_null, isRf_rf, isC1_int, isC1_ref, isC1_null, isC1_rf, true_and, and_true, List.length_cons, List.length_nil, Nat.reduceAdd, Nat.reduceLeDiff, hK_sI, hN_sI, hR_sI, hI_sI, hK_sR, hN_sR, hR_sR, hI_sR, kC_2, kC_3, kC_4, kC_5, kC_6, kC_7, kC_8, kC_9, kC_10, kC_11, kC_20, kC_21, kC_22, kC_23, i2_0, i1_1, i0_1, i1_0, bI_and, bI_0, Decidable.not_not, not_false_eq_true, not_true_eq_false, forall_const, false_implies, true_implies, hK_copy, hN_copy, hI_copy, hC_sI, hC_sR, hC_new, hK_new, hN_new, hI_new, hR_new, rf_some, rf_none, ex_ref, ex_null, ex_rf, nref_null, rf_null, Nat.reduceEqDiff, reduceCtorEq, false_and, and_false, if_false, if_true, ne_eq, kO_150, kO_151, kO_152, kO_170, kO_180, kO_190, Value.ref.injEq, exists_eq_left', false_or, k1, k2, k3, k4, kb, kn, o12, hcl, hfo, hK_row, hN_row, hR_row, hI_row, le12 (show i ≤ 12 by omega)]
        have step : ∀ m, m = (fun j => if j < i + 1 then pnW h a (hI h 151 b) j else hI h 151 b j) → hrow h 151 b m = hrow h 151 b (fun j => if j < i + 1 then pnW h a (hI h 151 b) j else hI h 151 b j) := fun m e => by rw [e]
        refine ⟨fun e => ?_, fun e => ⟨fun e0 => absurd e0 e, fun e0 => ⟨vp_in_nI (by omega) (by decide), fun e2 => ?_, fun e2 => ?_⟩⟩⟩
        · subst e; exact hp
        · refine ⟨n - 1, by omega, i + 1, some (va_rf (pnFO h a i)), by omega, ?_, ?_⟩
          · rw [nI_1, show sumI (pnB h a (hI h 151 b)) (i + 1) = sumI (pnB h a (hI h 151 b)) i + pnB h a (hI h 151 b) i from rfl, show pnB h a (hI h 151 b) i = 0 by unfold pnB; rw [e2], Int32.add_zero]
          · refine hrow_cg _ _ _ (fun j => ?_)
            by_cases e3 : j = i
            · subst e3
              rw [if_neg (Nat.lt_irrefl _), if_pos (Nat.lt_succ_self _)]
              unfold pnW; rw [e2]
            · by_cases e4 : j < i
              · rw [if_pos e4, if_pos (by omega)]
              · rw [if_neg e4, if_neg (by omega)]
        · obtain ⟨c, hc⟩ := (pn_null _).mp e2
          obtain ⟨c1, c2, c3, -⟩ := k6 i (by omega) c hc
          have eB : sumI (pnB h a (hI h 151 b)) (i + 1) = sumI (pnB h a (hI h 151 b)) i + bI (¬ hI h 151 b i = -1 ∧ ¬ hI h 151 b i = hI h 257 c 0 ∧ hI h 258 c 0 = 0) := by
            show _ + pnB h a (hI h 151 b) i = _
            unfold pnB; rw [hc]
          have eW : hsI (hrow h 151 b (fun j => if j < i then pnW h a (hI h 151 b) j else hI h 151 b j)) 151 b i (hI h 257 c 0) = hrow h 151 b (fun j => if j < i + 1 then pnW h a (hI h 151 b) j else hI h 151 b j) := by
            rw [hrow_set]
            refine hrow_cg _ _ _ (fun j => ?_)
            by_cases e3 : j = i
            · subst e3
              rw [if_pos rfl, if_pos (Nat.lt_succ_self _)]
              unfold pnW; rw [hc]
            · rw [if_neg e3]
              by_cases e4 : j < i
              · rw [if_pos e4, if_pos (by omega)]
              · rw [if_neg e4, if_neg (by omega)]
          simp only [wp_X4_countBreaks_0, wp_X4_countBreaks_59, wp_X4_countBreaks_49, wp_X4_countBreaks_65, wp_X4_countBreaks_4, T_X2_isBreakAfter, i_mmax, i_mmin, i_pushI, i_pushN, i_pushL, i_iload, i_aload, i_istore, i_astore, i_iinc, i_iadd, i_isub, i_imul, i_iand, i_ior, i_ixor, i_ishl, i_ishr, i_iushr, i_idiv, i_i2l, i_lcmp, i_dup, i_pop, i_dupx1, i_dup2, i_ifeq, i_ifne, i_iflt, i_ifge, i_ifgt, i_ifle, i_iceq, i_icne, i_iclt, i_icge, i_icgt, i_icle, i_ifnull, i_aceq, i_getI, i_getR, i_putI, i_putZ, i_putR, i_new, i_newarr, i_ald, i_lald, i_aald, i_alen, i_ast, i_zast, i_last, i_aast, i_aastL, i_cast, i_gste, i_ldcM, i_getC, i_acopy, i_dead, i_objinit, i_callV, i_callS, i_callI, i_iret, i_zret, i_aret, i_vret, i_throw, popN, pushO, lget, lset, isRf_ref, isRf_null, isRf_rf, isC1_int, isC1_ref, isC1_null, isC1_rf, true_and, and_true, List.length_cons, List.length_nil, Nat.reduceAdd, Nat.reduceLeDiff, hK_sI, hN_sI, hR_sI, hI_sI, hK_sR, hN_sR, hR_sR, hI_sR, kC_2, kC_3, kC_4, kC_5, kC_6, kC_7, kC_8, kC_9, kC_10, kC_11, kC_20, kC_21, kC_22, kC_23, i2_0, i1_1, i0_1, i1_0, bI_and, bI_0, Decidable.not_not, not_false_eq_true, not_true_eq_false, forall_const, false_implies, true_implies, hK_copy, hN_copy, hI_copy, hC_sI, hC_sR, hC_new, hK_new, hN_new, hI_new, hR_new, rf_some, rf_none, ex_ref, ex_null, ex_rf, nref_null, rf_null, Nat.reduceEqDiff, reduceCtorEq, false_and, and_false, if_false, if_true, ne_eq, kO_150, kO_151, kO_152, kO_170, kO_180, kO_190, Value.ref.injEq, exists_eq_left', false_or, hc, c1, c2, c3, kb, kn, hcl, hK_row, hN_row, hI_row, Nat.lt_irrefl, vp_in_nI (show i < 12 by omega) (by decide), eW]
          refine ⟨fun e3 => ?_, fun e3 => ?_⟩
          · refine ⟨n - 1, by omega, i + 1, some (.ref c), by omega, ?_, rfl⟩
            rw [eB, bI_f e3, nI_1]
          · refine ⟨n - 1, by omega, i + 1, some (.ref c), by omega, ?_, rfl⟩
            rw [eB, bI_t e3, nI_1])
      refine ⟨_, go_X4_countBreaks_0 hz hr hloop, ?_⟩
      show wp_X4_countBreaks_0 P X _ [some (.ref a), some (.ref b), none, none, none] [] h
      simp only [wp_X4_countBreaks_0, wp_X4_countBreaks_59, wp_X4_countBreaks_49, wp_X4_countBreaks_65, wp_X4_countBreaks_4, T_X2_isBreakAfter, i_mmax, i_mmin, i_pushI, i_pushN, i_pushL, i_iload, i_aload, i_istore, i_astore, i_iinc, i_iadd, i_isub, i_imul, i_iand, i_ior, i_ixor, i_ishl, i_ishr, i_iushr, i_idiv, i_i2l, i_lcmp, i_dup, i_pop, i_dupx1, i_dup2, i_ifeq, i_ifne, i_iflt, i_ifge, i_ifgt, i_ifle, i_iceq, i_icne, i_iclt, i_icge, i_icgt, i_icle, i_ifnull, i_aceq, i_getI, i_getR, i_putI, i_putZ, i_putR, i_new, i_newarr, i_ald, i_lald, i_aald, i_alen, i_ast, i_zast, i_last, i_aast, i_aastL, i_cast, i_gste, i_ldcM, i_getC, i_acopy, i_dead, i_objinit, i_callV, i_callS, i_callI, i_iret, i_zret, i_aret, i_vret, i_throw, popN, pushO, lget, lset, isRf_ref, isRf_null, isRf_rf, isC1_int, isC1_ref, isC1_null, isC1_rf, true_and, and_true, List.length_cons, List.length_nil, Nat.reduceAdd, Nat.reduceLeDiff, hK_sI, hN_sI, hR_sI, hI_sI, hK_sR, hN_sR, hR_sR, hI_sR, kC_2, kC_3, kC_4, kC_5, kC_6, kC_7, kC_8, kC_9, kC_10, kC_11, kC_20, kC_21, kC_22, kC_23, i2_0, i1_1, i0_1, i1_0, bI_and, bI_0, Decidable.not_not, not_false_eq_true, not_true_eq_false, forall_const, false_implies, true_implies, hK_copy, hN_copy, hI_copy, hC_sI, hC_sR, hC_new, hK_new, hN_new, hI_new, hR_new, rf_some, rf_none, ex_ref, ex_null, ex_rf, nref_null, rf_null, Nat.reduceEqDiff, reduceCtorEq, false_and, and_false, if_false, if_true, ne_eq, kO_150, kO_151, kO_152, kO_170, kO_180, kO_190, Value.ref.injEq, exists_eq_left', false_or]
      refine ⟨12, 0, none, by omega, rfl, ?_⟩
      have : (fun j => if j < 0 then pnW h a (hI h 151 b) j else hI h 151 b j) = (fun j => hI h 151 b j) := funext fun j => if_neg (Nat.not_lt_zero j)
      rw [this]
      exact (hrow_id h 151 b).symm
    · exact hT.elim
  · unfold T_X4_countBreaks at hT
    split at hT
    · exact ⟨Nat.le_of_ble_eq_true rfl, by simp [isC1_int, isC1_ref, isC1_null, isC1_rf]⟩
    · exact hT.elim
