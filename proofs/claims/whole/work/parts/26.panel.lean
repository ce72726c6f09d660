def wp_X4_init_0 (P : Option Value → hp_T → Prop) (X : String → hp_T → Prop) : KT :=
  i_aload 0 (i_objinit (i_aload 0 (i_pushI 12 (i_newarr 170 12 (i_putR 6 385 (i_aload 0 (i_aload 1 (i_putR 6 384 (i_vret P)))))))))
set_option maxRecDepth 20000 in
theorem go_X4_init_0 {z : zT} {P : Option Value → hp_T → Prop} {X : String → hp_T → Prop} (hz : Cx z cX4_init 2 "Panelry$Panel" "<init>" 1 1 12) (hr : Rt z none P X 1 12) : Go z 0 0 0 (wp_X4_init_0 P X) := 
  s_aload_n hz rfl dX4_init_0 (s_objinit hz w506 w61 w62 rfl dX4_init_1 (s_aload_n hz rfl dX4_init_4 (s_bipush hz rfl dX4_init_5 (s_anewarr hz rfl rfl rfl (Or.inr ⟨rfl, rfl⟩) w507 rfl rfl rfl dX4_init_7
    (fp_RX4_11 hz dX4_init_10 (s_aload_n hz rfl dX4_init_13 (s_aload_n hz rfl dX4_init_14 (fp_RX4_17 hz dX4_init_15 (s_vret hz hr rfl rfl dX4_init_18)))))))))

def T_X4_init : PT := fun av h P X => match av with
  | [.ref a, .ref b] => (hK h a = 6) ∧ (∀ q, hK h q = 0 → P none (hsR (hsR (hnew h q 170 12) 385 a 0 (some q)) 384 a 0 (some b)))
  | _ => False
set_option maxRecDepth 20000 in
theorem ct_X4_init : CT yX4_init cX4_init 2 none 1 1 12 T_X4_init := by
  refine ct_ofE (by decide) (fun z av h P X hT hz hr => ?_) (fun av h P X hT => ?_)
  · unfold T_X4_init at hT
    split at hT
    · refine ⟨_, go_X4_init_0 hz hr, ?_⟩
      rename_i a b
      show wp_X4_init_0 P X [some (.ref a), some (.ref b)] [] h
      obtain ⟨hk, hp⟩ := hT
      simp only [wp_X4_init_0, i_mmax, i_mmin, i_pushI, i_pushN, i_pushL, i_iload, i_aload, i_istore, i_astore, i_iinc, i_iadd, i_isub, i_imul, i_iand, i_ior, i_ixor, i_ishl, i_ishr, i_iushr, i_idiv, i_i2l, i_lcmp, i_dup, i_pop, i_dupx1, i_dup2, i_ifeq, i_ifne, i_iflt, i_ifge, i_ifgt, i_ifle, i_iceq, i_icne, i_iclt, i_icge, i_icgt, i_icle, i_ifnull, i_aceq, i_getI, i_getR, i_putI, i_putZ, i_putR, i_new, i_newarr, i_ald, i_lald, i_aald, i_alen, i_ast, i_zast, i_last, i_aast, i_aastL, i_cast, i_gste, i_ldcM, i_getC, i_acopy, i_dead, i_objinit, i_callV, i_callS, i_callI, i_iret, i_zret, i_aret, i_vret, i_throw, popN, pushO, lget, lset, isRf_ref, isRf_null, isRf_rf, isC1_int, isC1_ref, isC1_null, isC1_rf, true_and, and_true, List.length_cons, List.length_nil, Nat.reduceAdd, Nat.reduceLeDiff, hK_sI, hN_sI, hR_sI, hI_sI, hK_sR, hN_sR, hR_sR, hI_sR, kC_2, kC_3, kC_4, kC_5, kC_6, kC_7, kC_8, kC_9, kC_10, kC_11, kC_20, kC_21, kC_22, kC_23, i2_0, i1_1, i0_1, i1_0, bI_and, bI_0, Decidable.not_not, not_false_eq_true, not_true_eq_false, forall_const, false_implies, true_implies, hK_copy, hN_copy, hI_copy, hC_sI, hC_sR, hC_new, hK_new, hN_new, hI_new, hR_new, rf_some, rf_none, ex_ref, ex_null, ex_rf, nref_null, rf_null, Nat.reduceEqDiff, reduceCtorEq, false_and, and_false, if_false, if_true, ne_eq, kO_150, kO_151, kO_152, kO_170, kO_180, kO_190, Value.ref.injEq, exists_eq_left', false_or, hk]
      refine ⟨⟨by decide, by decide⟩, fun q hq => ?_⟩
      have hne : ¬ a = q := fun e => by rw [e, hq] at hk; cases hk
      simp only [hne, if_false, true_and]
      exact hp q hq
    · exact hT.elim
  · unfold T_X4_init at hT
    split at hT
    · exact ⟨Nat.le_of_ble_eq_true rfl, by simp [isC1_int, isC1_ref, isC1_null, isC1_rf]⟩
    · exact hT.elim
/-- the faces of a panel -/
def pnF (h : hp_T) (a : Nat) : Prop := hK h a = 6 ∧ hR h 385 a 0 = some (dR h 385 a) ∧ hK h (dR h 385 a) = 170 ∧ hN h (dR h 385 a) = 12
def fcOK (h : hp_T) (c : Nat) : Prop := hK h c = 4 ∧ hR h 256 c 0 = some (dR h 256 c) ∧ hK h (dR h 256 c) = 3 ∧ hI h 258 c 0 &&& 1 = hI h 258 c 0
def pnFO (h : hp_T) (a f : Nat) : Option Nat := hR h 170 (dR h 385 a) f
def pnOK (h : hp_T) (a : Nat) : Prop := pnF h a ∧ (hR h 384 a 0 = some (dR h 384 a) ∧ hK h (dR h 384 a) = 3) ∧ ∀ f, f < 12 → ∀ c, pnFO h a f = some c → fcOK h c
theorem o12 : Int32.ofNat 12 = 12 := rfl
def wp_X4_faceOf_23 (P : Option Value → hp_T → Prop) (X : String → hp_T → Prop) : KT :=
  i_aret P
set_option maxRecDepth 20000 in
theorem go_X4_faceOf_23 {z : zT} {P : Option Value → hp_T → Prop} {X : String → hp_T → Prop} (hz : Cx z cX4_faceOf 2 "Panelry$Panel" "faceOf" 0 0 0) (hr : Rt z (some (.object "Panelry$Face")) P X 0 0) : Go z 0 0 23 (wp_X4_faceOf_23 P X) := 
  s_aret hz hr (Or.inl ⟨_, rfl⟩) rfl rfl dX4_faceOf_23
def wp_X4_faceOf_22 (P : Option Value → hp_T → Prop) (X : String → hp_T → Prop) : KT :=
  i_pushN (wp_X4_faceOf_23 P X)
set_option maxRecDepth 20000 in
theorem go_X4_faceOf_22 {z : zT} {P : Option Value → hp_T → Prop} {X : String → hp_T → Prop} (hz : Cx z cX4_faceOf 2 "Panelry$Panel" "faceOf" 0 0 0) (hr : Rt z (some (.object "Panelry$Face")) P X 0 0) : Go z 0 0 22 (wp_X4_faceOf_22 P X) := 
  s_null hz dX4_faceOf_22 (go_X4_faceOf_23 hz hr)
def wp_X4_faceOf_0 (P : Option Value → hp_T → Prop) (X : String → hp_T → Prop) : KT :=
  i_iload 1 (i_iflt (wp_X4_faceOf_22 P X) (i_iload 1 (i_aload 0 (i_getR 6 385 (i_alen (i_icge (wp_X4_faceOf_22 P X) (i_aload 0 (i_getR 6 385 (i_iload 1 (i_aald 170 (wp_X4_faceOf_23 P X)))))))))))
set_option maxRecDepth 20000 in
theorem go_X4_faceOf_0 {z : zT} {P : Option Value → hp_T → Prop} {X : String → hp_T → Prop} (hz : Cx z cX4_faceOf 2 "Panelry$Panel" "faceOf" 0 0 0) (hr : Rt z (some (.object "Panelry$Face")) P X 0 0) : Go z 0 0 0 (wp_X4_faceOf_0 P X) := 
  s_iload_n hz rfl dX4_faceOf_0 (s_iflt hz (tgt := 22) rfl dX4_faceOf_1 (go_X4_faceOf_22 hz hr) (s_iload_n hz rfl dX4_faceOf_4 (s_aload_n hz rfl dX4_faceOf_5 (fg_RX4_11 hz dX4_faceOf_6
    (s_alen hz dX4_faceOf_9 (s_icge hz (tgt := 22) rfl dX4_faceOf_10 (go_X4_faceOf_22 hz hr) (s_aload_n hz rfl dX4_faceOf_13 (fg_RX4_11 hz dX4_faceOf_14 (s_iload_n hz rfl dX4_faceOf_17 (s_aald hz rfl rfl rfl
    (Or.inr rfl) dX4_faceOf_18 (s_goto hz (tgt := 23) rfl dX4_faceOf_19 (go_X4_faceOf_23 hz hr))))))))))))

def T_X4_faceOf : PT := fun av h P X => match av with
  | [.ref a, .int f] => (pnF h a) ∧ (P (some (va_rf (if ¬ f < 0 ∧ f < 12 then pnFO h a f.toNatClampNeg else none))) h)
  | _ => False
set_option maxRecDepth 20000 in
theorem ct_X4_faceOf : CT yX4_faceOf cX4_faceOf 2 (some (.object "Panelry$Face")) 0 0 0 T_X4_faceOf := by
  refine ct_ofE (by decide) (fun z av h P X hT hz hr => ?_) (fun av h P X hT => ?_)
  · unfold T_X4_faceOf at hT
    split at hT
    · refine ⟨_, go_X4_faceOf_0 hz hr, ?_⟩
      rename_i a f
      show wp_X4_faceOf_0 P X [some (.ref a), some (.int f)] [] h
      obtain ⟨hk, hp⟩ := hT
      obtain ⟨k1, k2, k3, k4⟩ := hk
      simp only [wp_X4_faceOf_23, wp_X4_faceOf_22, wp_X4_faceOf_0, k1, k2, k3, k4, o12, i_mmax, i_mmin, i_pushI, i_pushN, i_pushL, i_iload, i_aload, i_istore, i_astore, i_iinc, i_iadd, i_isub, i_imul, i_iand, i_ior, i_ixor, i_ishl, i_ishr, i_iushr, i_idiv, i_i2l, i_lcmp, i_dup, i_pop, i_dupx1, i_dup2, i_ifeq, i_ifne, i_iflt, i_ifge, i_ifgt, i_ifle, i_iceq, i_icne, i_iclt, i_icge, i_icgt, i_icle, i_ifnull, i_aceq, i_getI, i_getR, i_putI, i_putZ, i_putR, i_new, i_newarr, i_ald, i_lald, i_aald, i_alen, i_ast, i_zast, i_last, i_aast, i_aastL, i_cast, i_gste, i_ldcM, i_getC, i_acopy, i_dead, i_objinit, i_callV, i_callS, i_callI, i_iret, i_zret, i_aret, i_vret, i_throw, popN, pushO, lget, lset, isRf_ref, isRf_null, isRf_rf, isC1_int, isC1_ref, isC1_null, isC1_rf, true_and, and_true, List.length_cons, List.length_nil, Nat.reduceAdd, Nat.reduceLeDiff, hK_sI, hN_sI, hR_sI, hI_sI, hK_sR, hN_sR, hR_sR, hI_sR, kC_2, kC_3, kC_4, kC_5, kC_6, kC_7, kC_8, kC_9, kC_10, kC_11, kC_20, kC_21, kC_22, kC_23, i2_0, i1_1, i0_1, i1_0, bI_and, bI_0, Decidable.not_not, not_false_eq_true, not_true_eq_false, forall_const, false_implies, true_implies, hK_copy, hN_copy, hI_copy, hC_sI, hC_sR, hC_new, hK_new, hN_new, hI_new, hR_new, rf_some, rf_none, ex_ref, ex_null, ex_rf, nref_null, rf_null, Nat.reduceEqDiff, reduceCtorEq, false_and, and_false, if_false, if_true, ne_eq, kO_150, kO_151, kO_152, kO_170, kO_180, kO_190, Value.ref.injEq, exists_eq_left', false_or]
      refine ⟨fun c => ?_, fun c => ⟨fun c2 => ?_, fun c2 => ?_⟩⟩
      · rw [if_neg (fun z => z.1 c)] at hp; exact hp
      · rw [if_neg (fun z => by grind)] at hp; exact hp
      · have hlt : f < 12 := by grind
        rw [if_pos ⟨c, hlt⟩] at hp
        exact ⟨(vp_in_lt (n := 12) c hlt (Nat.le_refl _) (by decide)).1, hp⟩
    · exact hT.elim
  · unfold T_X4_faceOf at hT
    split at hT
    · exact ⟨Nat.le_of_ble_eq_true rfl, by simp [isC1_int, isC1_ref, isC1_null, isC1_rf]⟩
    · exact hT.elim
def wp_X4_putFace_20 (P : Option Value → hp_T → Prop) (X : String → hp_T → Prop) : KT :=
  i_vret P
set_option maxRecDepth 20000 in
theorem go_X4_putFace_20 {z : zT} {P : Option Value → hp_T → Prop} {X : String → hp_T → Prop} (hz : Cx z cX4_putFace 3 "Panelry$Panel" "putFace" 0 0 0) (hr : Rt z none P X 0 0) : Go z 0 0 20 (wp_X4_putFace_20 P X) := 
  s_vret hz hr rfl rfl dX4_putFace_20
def wp_X4_putFace_0 (P : Option Value → hp_T → Prop) (X : String → hp_T → Prop) : KT :=
  i_iload 1 (i_iflt (wp_X4_putFace_20 P X) (i_iload 1 (i_aload 0 (i_getR 6 385 (i_alen (i_icge (wp_X4_putFace_20 P X) (i_aload 0 (i_getR 6 385 (i_iload 1 (i_aload 2 (i_aast 170 4 (wp_X4_putFace_20 P X))))))))))))
set_option maxRecDepth 20000 in
theorem go_X4_putFace_0 {z : zT} {P : Option Value → hp_T → Prop} {X : String → hp_T → Prop} (hz : Cx z cX4_putFace 3 "Panelry$Panel" "putFace" 0 0 0) (hr : Rt z none P X 0 0) : Go z 0 0 0 (wp_X4_putFace_0 P X) := 
  s_iload_n hz rfl dX4_putFace_0 (s_iflt hz (tgt := 20) rfl dX4_putFace_1 (go_X4_putFace_20 hz hr) (s_iload_n hz rfl dX4_putFace_4 (s_aload_n hz rfl dX4_putFace_5 (fg_RX4_11 hz dX4_putFace_6
    (s_alen hz dX4_putFace_9 (s_icge hz (tgt := 20) rfl dX4_putFace_10 (go_X4_putFace_20 hz hr) (s_aload_n hz rfl dX4_putFace_13 (fg_RX4_11 hz dX4_putFace_14 (s_iload_n hz rfl dX4_putFace_17
    (s_aload_n hz rfl dX4_putFace_18 (s_aast hz rfl rfl rfl rfl kO_4 rfl cls3 rfl (Or.inr rfl) (Or.inl rfl) dX4_putFace_19 (go_X4_putFace_20 hz hr))))))))))))

def T_X4_putFace : PT := fun av h P X => match av with
  | [.ref a, .int f, .ref c] => (pnF h a ∧ hK h c = 4) ∧ (P none (if ¬ f < 0 ∧ f < 12 then hsR h 170 (dR h 385 a) f.toNatClampNeg (some c) else h))
  | _ => False
set_option maxRecDepth 20000 in
theorem ct_X4_putFace : CT yX4_putFace cX4_putFace 3 none 0 0 0 T_X4_putFace := by
  refine ct_ofE (by decide) (fun z av h P X hT hz hr => ?_) (fun av h P X hT => ?_)
  · unfold T_X4_putFace at hT
    split at hT
    · refine ⟨_, go_X4_putFace_0 hz hr, ?_⟩
      rename_i a f c
      show wp_X4_putFace_0 P X [some (.ref a), some (.int f), some (.ref c)] [] h
      obtain ⟨hk, hp⟩ := hT
      obtain ⟨⟨k1, k2, k3, k4⟩, k5⟩ := hk
      simp only [wp_X4_putFace_20, wp_X4_putFace_0, k1, k2, k3, k4, k5, o12, i_mmax, i_mmin, i_pushI, i_pushN, i_pushL, i_iload, i_aload, i_istore, i_astore, i_iinc, i_iadd, i_isub, i_imul, i_iand, i_ior, i_ixor, i_ishl, i_ishr, i_iushr, i_idiv, i_i2l, i_lcmp, i_dup, i_pop, i_dupx1, i_dup2, i_ifeq, i_ifne, i_iflt, i_ifge, i_ifgt, i_ifle, i_iceq, i_icne, i_iclt, i_icge, i_icgt, i_icle, i_ifnull, i_aceq, i_getI, i_getR, i_putI, i_putZ, i_putR, i_new, i_newarr, i_ald, i_lald, i_aald, i_alen, i_ast, i_zast, i_last, i_aast, i_aastL, i_cast, i_gste, i_ldcM, i_getC, i_acopy, i_dead, i_objinit, i_callV, i_callS, i_callI, i_iret, i_zret, i_aret, i_vret, i_throw, popN, pushO, lget, lset, isRf_ref, isRf_null, isRf_rf, isC1_int, isC1_ref, isC1_null, isC1_rf, true_and, and_true, List.length_cons, List.length_nil, Nat.reduceAdd, Nat.reduceLeDiff, hK_sI, hN_sI, hR_sI, hI_sI, hK_sR, hN_sR, hR_sR, hI_sR, kC_2, kC_3, kC_4, kC_5, kC_6, kC_7, kC_8, kC_9, kC_10, kC_11, kC_20, kC_21, kC_22, kC_23, i2_0, i1_1, i0_1, i1_0, bI_and, bI_0, Decidable.not_not, not_false_eq_true, not_true_eq_false, forall_const, false_implies, true_implies, hK_copy, hN_copy, hI_copy, hC_sI, hC_sR, hC_new, hK_new, hN_new, hI_new, hR_new, rf_some, rf_none, ex_ref, ex_null, ex_rf, nref_null, rf_null, Nat.reduceEqDiff, reduceCtorEq, false_and, and_false, if_false, if_true, ne_eq, kO_150, kO_151, kO_152, kO_170, kO_180, kO_190, Value.ref.injEq, exists_eq_left', false_or]
      refine ⟨fun c => ?_, fun c => ⟨fun c2 => ?_, fun c2 => ?_⟩⟩
      · rw [if_neg (fun z => z.1 c)] at hp; exact hp
      · rw [if_neg (fun z => by grind)] at hp; exact hp
      · have hlt : f < 12 := by grind
        rw [if_pos ⟨c, hlt⟩] at hp
        exact ⟨(vp_in_lt (n := 12) c hlt (Nat.le_refl _) (by decide)).1, hp⟩
    · exact hT.elim
  · unfold T_X4_putFace at hT
    split at hT
    · exact ⟨Nat.le_of_ble_eq_true rfl, by simp [isC1_int, isC1_ref, isC1_null, isC1_rf]⟩
    · exact hT.elim
