theorem hK_grown (h : hp_T) (a q c b : Nat) : hK (grown h a q c) b = if b = q then hK h a + 140 else hK h b := rfl
theorem hN_grown (h : hp_T) (a q c b : Nat) : hN (grown h a q c) b = if b = q then c else hN h b := rfl
theorem hI_grown (h : hp_T) (a q c g b i : Nat) : hI (grown h a q c) g b i = if b = q then 0 else hI h g b i := rfl
theorem hC_grown (h : hp_T) (a q c i : Nat) : hC (grown h a q c) i = hC h i := rfl
theorem hR_grown (h : hp_T) (a q c g b i : Nat) : hR (grown h a q c) g b i = if g = 64 * hK h a + 1 ∧ b = a ∧ i = 0 then some q else if g = hK h a + 140 ∧ b = q then (if i < hN h (lda h a) then hR h (hK h a + 140) (lda h a) i else none) else if b = q then none else hR h g b i := rfl
theorem lOK.gOK {h : hp_T} {a : Nat} (k : lOK h a) (n40 : lsz h a < 40) (e : lsz h a = hN h (lda h a)) : gOK h a (hI h (64 * hK h a + 2) a 0 + 1) := by
  obtain ⟨k1, k2, k3, k4, k5, k6⟩ := k
  refine ⟨k1, k2, by omega, by rw [k3, nI_1, e], ?_, fun i hi y hy => ?_⟩
  · rcases k5 with ⟨e1, e2, e3, e4⟩ | ⟨e1, e2, e3, e4⟩
    · exact Or.inl ⟨e1, e3, e4⟩
    · exact Or.inr ⟨e1, e3⟩
  · have := k6 i (by omega)
    rw [this.1] at hy
    cases hy
    exact this.2
theorem lOK.a0 {h : hp_T} {a : Nat} (k : isL (hK h a)) : ∀ q, hK h q = 0 → ¬ a = q := fun q hq e => by
  have l0 := isL_0 k
  rw [← e] at hq
  rw [hq] at l0
  cases l0
theorem lOK.d0 {h : hp_T} {a : Nat} (k : lOK h a) : ∀ q, hK h q = 0 → ¬ lda h a = q := fun q hq e => by
  rcases k.2.2.2.2.1 with ⟨-, -, e3, -⟩ | ⟨e1, -⟩
  · rw [e, hq] at e3; cases e3
  · rw [e, hq] at e1; omega
def wp_Jx4a65c_add_72be8_11 (kd : Nat) (P : Option Value → hp_T → Prop) (X : String → hp_T → Prop) : KT :=
  i_aload 2 (i_iload 3 (i_aload 1 (i_aastL (kd + 140) (i_aload 0 (i_iload 3 (i_pushI 1 (i_iadd (i_putI kd (64 * kd + 2) (i_vret P)))))))))
set_option maxRecDepth 20000 in
theorem go_Jx4a65c_add_72be8_11 {kd : Nat} (hkL : isL kd) {z : zT} {P : Option Value → hp_T → Prop} {X : String → hp_T → Prop} (hz : Cx z cJx4a65c_add_72be8 4 "java/util/ArrayList" "add" 6 1 100) (hr : Rt z none P X 1 100) : Go z 1 100 11 (wp_Jx4a65c_add_72be8_11 kd P X) := have hkd := isL_kO hkL; have hk0 := isL_0 hkL;
  s_aload_n hz rfl dJx4a65c_add_72be8_11 (s_iload_n hz rfl dJx4a65c_add_72be8_12 (s_aload_n hz rfl dJx4a65c_add_72be8_13 (s_aastL hz (hkD kd hkL) (hkD0 kd) (hkD9 kd hkL) (hkDA kd hkL) dJx4a65c_add_72be8_14
    (s_aload_n hz rfl dJx4a65c_add_72be8_15 (s_iload_n hz rfl dJx4a65c_add_72be8_16 (s_iconst hz rfl dJx4a65c_add_72be8_17 (s_iadd hz dJx4a65c_add_72be8_18 (s_putI (i := 2) hz hkd hk0 cls0 rfl rfl ⟨w78, Or.inl rfl⟩ rfl
    (Or.inl rfl) dJx4a65c_add_72be8_19 (s_vret hz hr rfl rfl dJx4a65c_add_72be8_22)))))))))
def wp_Jx4a65c_add_72be8_0 (kd : Nat) (P : Option Value → hp_T → Prop) (X : String → hp_T → Prop) : KT :=
  i_iload 3 (i_aload 2 (i_alen (i_icne (wp_Jx4a65c_add_72be8_11 kd P X) (i_aload 0 (i_callV 0 1 T_Jx4a65c_grow_d5877 noX (i_astore 2 (wp_Jx4a65c_add_72be8_11 kd P X)))))))
set_option maxRecDepth 20000 in
theorem go_Jx4a65c_add_72be8_0 {kd : Nat} (hkL : isL kd) {z : zT} {P : Option Value → hp_T → Prop} {X : String → hp_T → Prop} (hz : Cx z cJx4a65c_add_72be8 4 "java/util/ArrayList" "add" 6 1 100) (hr : Rt z none P X 1 100) : Go z 0 0 0 (wp_Jx4a65c_add_72be8_0 kd P X) := have hkd := isL_kO hkL; have hk0 := isL_0 hkL;
  s_iload_n hz rfl dJx4a65c_add_72be8_0 (s_aload_n hz rfl dJx4a65c_add_72be8_1 (s_alen hz dJx4a65c_add_72be8_2 (s_icne hz (tgt := 11) rfl dJx4a65c_add_72be8_3 (Go.widen 1 100 (go_Jx4a65c_add_72be8_11 hkL hz hr)
    (Nat.le_of_ble_eq_true rfl) (Nat.le_of_ble_eq_true rfl)) (s_aload_n hz rfl dJx4a65c_add_72be8_6 (s_callV hz ct_Jx4a65c_grow_d5877 ⟨w344, w347, w32, by decide, by decide, by decide +kernel⟩ w346 w9 cls0 rfl rfl rfl rfl rfl rfl out_no dJx4a65c_add_72be8_7
    (s_astore_n hz rfl rfl dJx4a65c_add_72be8_10 (go_Jx4a65c_add_72be8_11 hkL hz hr)))))))

def T_Jx4a65c_add_72be8 : PT := fun av h P X => match av with
  | [.ref a, .ref v, .ref d, .int n] => ((lOK h a ∧ lsz h a < 40 ∧ objK (hK h v)) ∧ d = lda h a ∧ n = nI (lsz h a)) ∧ ((lsz h a < hN h (lda h a) → P none (hsI (hsR h (hK h a + 140) (lda h a) (lsz h a) (some v)) (64 * hK h a + 2) a 0 (nI (lsz h a + 1)))) ∧ (lsz h a = hN h (lda h a) → ∀ q c, hK h q = 0 → lsz h a < c ∧ c ≤ 60 → P none (hsI (hsR (grown h a q c) (hK h a + 140) q (lsz h a) (some v)) (64 * hK h a + 2) a 0 (nI (lsz h a + 1)))))
  | _ => False
set_option maxRecDepth 20000 in
theorem ct_Jx4a65c_add_72be8 : CT yJx4a65c_add_72be8 cJx4a65c_add_72be8 4 none 6 1 100 T_Jx4a65c_add_72be8 := by
  refine ct_ofE (by decide) (fun z av h P X hT hz hr => ?_) (fun av h P X hT => ?_)
  · unfold T_Jx4a65c_add_72be8 at hT
    split at hT
    · refine ⟨_, go_Jx4a65c_add_72be8_0 (hT.1.1.1.1) hz hr, ?_⟩
      rename_i a v d n
      show wp_Jx4a65c_add_72be8_0 (hK h a) P X [some (.ref a), some (.ref v), some (.ref d), some (.int n)] [] h
      obtain ⟨hk, hp⟩ := hT
      obtain ⟨⟨k, n40, kv⟩, rfl, rfl⟩ := hk
      have k1 := k.1
      have a0 := lOK.a0 k1
      have d0 := k.d0
      have v0 : ∀ q, hK h q = 0 → ¬ v = q := fun q hq e => by rw [e, hq] at kv; rcases kv with z | z | z | z <;> cases z
      have kdd : kO (hK h (lda h a)) = none ∧ hK h (lda h a) ≠ 0 := by
        rcases k.2.2.2.2.1 with ⟨-, -, e3, -⟩ | ⟨e1, -⟩
        · rw [e3]; exact ⟨rfl, by decide⟩
        · rw [e1]; exact ⟨hkD _ k1, by omega⟩
      have hn60 : lsz h a ≤ hN h (lda h a) ∧ hN h (lda h a) ≤ 60 := by
        rcases k.2.2.2.2.1 with ⟨-, e2, -, e4⟩ | ⟨-, e2, -, e4⟩
        · omega
        · exact ⟨e2, e4⟩
      have eN : (nI (lsz h a) = Int32.ofNat (hN h (lda h a))) ↔ lsz h a = hN h (lda h a) := nI_eq (by omega) (by omega)
      simp only [wp_Jx4a65c_add_72be8_0, wp_Jx4a65c_add_72be8_11, T_Jx4a65c_grow_d5877, kdd, ne_eq, eN, isL_kC k1, i_mmax, i_mmin, i_pushI, i_pushN, i_pushL, i_iload, i_aload, i_istore, i_astore, i_iinc, i_iadd, i_isub, i_imul, i_iand, i_ior, i_ixor, i_ishl, i_ishr, i_iushr, i_idiv, i_i2l, i_lcmp, i_dup, i_pop, i_dupx1, i_dup2, i_ifeq, i_ifne, i_iflt, i_ifge, i_ifgt, i_ifle, i_iceq, i_icne, i_iclt, i_icge, i_icgt, i_icle, i_ifnull, i_aceq, i_getI, i_getR, i_putI, i_putZ, i_putR, i_new, i_newarr, i_ald, i_lald, i_aald, i_alen, i_ast, i_zast, i_last, i_aast, i_aastL, i_cast, i_gste, i_ldcM, i_getC, i_acopy, i_dead, i_objinit, i_callV, i_callS, i_callI, i_iret, i_zret, i_aret, i_vret, i_throw, popN, pushO, lget, lset, isRf_ref, isRf_null, isRf_rf, isC1_int, isC1_ref, isC1_null, isC1_rf, true_and, and_true, List.length_cons, List.length_nil, Nat.reduceAdd, Nat.reduceLeDiff, hK_sI, hN_sI, hR_sI, hI_sI, hK_sR, hN_sR, hR_sR, hI_sR, kC_2, kC_3, kC_4, kC_5, kC_6, kC_7, kC_8, kC_9, kC_10, kC_11, kC_20, kC_21, kC_22, kC_23, i2_0, i1_1, i0_1, i1_0, bI_and, bI_0, Decidable.not_not, not_false_eq_true, not_true_eq_false, forall_const, false_implies, true_implies, hK_copy, hN_copy, hI_copy, hC_sI, hC_sR, hC_new, hK_new, hN_new, hI_new, hR_new, rf_some, rf_none, ex_ref, ex_null, ex_rf, nref_null, rf_null, Nat.reduceEqDiff, reduceCtorEq, false_and, and_false, if_false, if_true, ne_eq, kO_150, kO_151, kO_152, kO_170, kO_180, kO_190, Value.ref.injEq, exists_eq_left', false_or]
      refine ⟨fun e => ?_, fun e => ⟨k.gOK n40 e, fun q c hq hc => ?_⟩⟩
      · have e1 : hK h (lda h a) = hK h a + 140 := by
          rcases k.2.2.2.2.1 with ⟨-, e2, -, e4⟩ | ⟨e1, -⟩
          · exact absurd (e2.trans e4.symm) e
          · exact e1
        refine ⟨⟨e1, kv, vp_in_nI (by omega) (by omega)⟩, ?_⟩
        rw [nI_clamp (by omega), nI_1]
        exact hp.1 (by omega)
      · simp only [hK_grown, hN_grown, if_true, v0 q hq, a0 q hq, if_false, i_mmax, i_mmin, i_pushI, i_pushN, i_pushL, i_iload, i_aload, i_istore, i_astore, i_iinc, i_iadd, i_isub, i_imul, i_iand, i_ior, i_ixor, i_ishl, i_ishr, i_iushr, i_idiv, i_i2l, i_lcmp, i_dup, i_pop, i_dupx1, i_dup2, i_ifeq, i_ifne, i_iflt, i_ifge, i_ifgt, i_ifle, i_iceq, i_icne, i_iclt, i_icge, i_icgt, i_icle, i_ifnull, i_aceq, i_getI, i_getR, i_putI, i_putZ, i_putR, i_new, i_newarr, i_ald, i_lald, i_aald, i_alen, i_ast, i_zast, i_last, i_aast, i_aastL, i_cast, i_gste, i_ldcM, i_getC, i_acopy, i_dead, i_objinit, i_callV, i_callS, i_callI, i_iret, i_zret, i_aret, i_vret, i_throw, popN, pushO, lget, lset, isRf_ref, isRf_null, isRf_rf, isC1_int, isC1_ref, isC1_null, isC1_rf, true_and, and_true, List.length_cons, List.length_nil, Nat.reduceAdd, Nat.reduceLeDiff, hK_sI, hN_sI, hR_sI, hI_sI, hK_sR, hN_sR, hR_sR, hI_sR, kC_2, kC_3, kC_4, kC_5, kC_6, kC_7, kC_8, kC_9, kC_10, kC_11, kC_20, kC_21, kC_22, kC_23, i2_0, i1_1, i0_1, i1_0, bI_and, bI_0, Decidable.not_not, not_false_eq_true, not_true_eq_false, forall_const, false_implies, true_implies, hK_copy, hN_copy, hI_copy, hC_sI, hC_sR, hC_new, hK_new, hN_new, hI_new, hR_new, rf_some, rf_none, ex_ref, ex_null, ex_rf, nref_null, rf_null, Nat.reduceEqDiff, reduceCtorEq, false_and, and_false, if_false, if_true, ne_eq, kO_150, kO_151, kO_152, kO_170, kO_180, kO_190, Value.ref.injEq, exists_eq_left', false_or]
        refine ⟨⟨kv, vp_in_nI (by omega) (by omega)⟩, ?_⟩
        rw [nI_clamp (by omega), nI_1]
        exact hp.2 e q c hq (by omega)
    · exact hT.elim
  · unfold T_Jx4a65c_add_72be8 at hT
    split at hT
    · exact ⟨Nat.le_of_ble_eq_true rfl, by simp [isC1_int, isC1_ref, isC1_null, isC1_rf]⟩
    · exact hT.elim
/-- what an add does: v behind the others, all else as it was -/
def LAdd (h h' : hp_T) (a v : Nat) : Prop :=
  (∀ b, hK h b ≠ 0 → hK h' b = hK h b ∧ hN h' b = hN h b) ∧ (∀ i, hC h' i = hC h i) ∧ (∀ b, hK h b = 0 → hK h' b = 0 ∨ b = lda h' a) ∧
  (∀ b, hK h b ≠ 0 → b ≠ a → ∀ g i, hI h' g b i = hI h g b i) ∧ (∀ b, hK h b ≠ 0 → b ≠ a → b ≠ lda h' a → ∀ g i, hR h' g b i = hR h g b i) ∧
  hI h' (64 * hK h a + 2) a 0 = nI (lsz h a + 1) ∧ hR h' (64 * hK h a + 1) a 0 = some (lda h' a) ∧ (lda h' a = lda h a ∨ hK h (lda h' a) = 0) ∧
  hK h' (lda h' a) = hK h a + 140 ∧ lsz h a + 1 ≤ hN h' (lda h' a) ∧ hN h' (lda h' a) ≤ 60 ∧ (∀ i, i < lsz h a → hR h' (hK h a + 140) (lda h' a) i = hR h (hK h a + 140) (lda h a) i) ∧ hR h' (hK h a + 140) (lda h' a) (lsz h a) = some v
theorem add_A {h : hp_T} {a v : Nat} {x : Int32} (k : lOK h a) (e1 : hK h (lda h a) = hK h a + 140) (n40 : lsz h a < 40) (hlt : lsz h a < hN h (lda h a)) (h60 : hN h (lda h a) ≤ 60) : LAdd h (hsI (hsR (hsI h (64 * hK h a + 0) a 0 x) (hK h a + 140) (lda h a) (lsz h a) (some v)) (64 * hK h a + 2) a 0 (nI (lsz h a + 1))) a v := by
  have l0 := isL_0 k.1
  have hne : ¬ lda h a = a := fun e => by rw [e] at e1; omega
  have h64 : ¬ 64 * hK h a + 1 = hK h a + 140 := by rcases k.1 with z | z | z | z <;> omega
  have hd : lda (hsI (hsR (hsI h (64 * hK h a + 0) a 0 x) (hK h a + 140) (lda h a) (lsz h a) (some v)) (64 * hK h a + 2) a 0 (nI (lsz h a + 1))) a = lda h a := by
    unfold lda dR
    simp only [hK_sI, hK_sR, hR_sI, hR_sR, h64, false_and, if_false]
  refine ⟨fun b _ => ⟨rfl, rfl⟩, fun _ => rfl, fun b hb => Or.inl hb, fun b _ hb g i => ?_, fun b _ hb hb2 g i => ?_, ?_, ?_, ?_, ?_, ?_, ?_, ?_, ?_⟩
  · simp only [hI_sI, hI_sR, hb, false_and, and_false, if_false]
  · rw [hd] at hb2; simp only [hR_sI, hR_sR, hb2, false_and, and_false, if_false]
  · simp only [hI_sI, and_self, if_true]
  · rw [hd]; simp only [hR_sI, hR_sR, h64, false_and, if_false]; exact k.2.1
  · exact Or.inl hd
  · rw [hd]; exact e1
  · rw [hd]; exact hlt
  · rw [hd]; exact h60
  · intro i hi
    rw [hd]
    have : ¬ i = lsz h a := by omega
    simp only [hR_sI, hR_sR, this, and_false, if_false]
  · rw [hd]; simp only [hR_sI, hR_sR, and_self, if_true]
theorem add_B {h : hp_T} {a v q c : Nat} {x : Int32} (k : lOK h a) (n40 : lsz h a < 40) (e : lsz h a = hN h (lda h a)) (hq : hK h q = 0) (hc : lsz h a < c ∧ c ≤ 60) : LAdd h (hsI (hsR (grown (hsI h (64 * hK h a + 0) a 0 x) a q c) (hK h a + 140) q (lsz h a) (some v)) (64 * hK h a + 2) a 0 (nI (lsz h a + 1))) a v := by
  have l0 := isL_0 k.1
  have hne := lOK.a0 k.1 q hq
  have hned := k.d0 q hq
  have h64 : ¬ 64 * hK h a + 1 = hK h a + 140 := by rcases k.1 with z | z | z | z <;> omega
  have hd0 : lda (hsI h (64 * hK h a + 0) a 0 x) a = lda h a := rfl
  have hd : lda (hsI (hsR (grown (hsI h (64 * hK h a + 0) a 0 x) a q c) (hK h a + 140) q (lsz h a) (some v)) (64 * hK h a + 2) a 0 (nI (lsz h a + 1))) a = q := by
    unfold lda dR
    simp only [hK_sI, hK_sR, hR_sI, hR_sR, hR_grown, hK_grown, hne, h64, and_self, false_and, if_true, if_false]
    rfl
  refine ⟨fun b hb => ?_, fun _ => rfl, fun b hb => ?_, fun b hb0 hb g i => ?_, fun b hb0 hb hb2 g i => ?_, ?_, ?_, ?_, ?_, ?_, ?_, ?_, ?_⟩
  · have : ¬ b = q := fun z => hb (by rw [z]; exact hq)
    simp only [hK_sI, hK_sR, hN_sI, hN_sR, hK_grown, hN_grown, this, if_false, and_self]
  · rw [hd]
    by_cases z : b = q
    · exact Or.inr z
    · refine Or.inl ?_
      simp only [hK_sI, hK_sR, hK_grown, z, if_false]; exact hb
  · have : ¬ b = q := fun z => hb0 (by rw [z]; exact hq)
    simp only [hI_sI, hI_sR, hI_grown, hb, this, false_and, and_false, if_false]
  · have : ¬ b = q := fun z => hb0 (by rw [z]; exact hq)
    simp only [hR_sI, hR_sR, hR_grown, hK_sI, hb, this, false_and, and_false, if_false]
  · simp only [hI_sI, and_self, if_true]
  · rw [hd]; simp only [hR_sI, hR_sR, hR_grown, hK_sI, h64, and_self, false_and, if_true, if_false]
  · rw [hd]; exact Or.inr hq
  · rw [hd]; simp only [hK_sI, hK_sR, hK_grown, if_true]
  · rw [hd]; simp only [hN_sI, hN_sR, hN_grown, if_true]; exact hc.1
  · rw [hd]; simp only [hN_sI, hN_sR, hN_grown, if_true]; exact hc.2
  · intro i hi
    rw [hd]
    have : ¬ i = lsz h a := by omega
    have h3 : i < hN h (lda h a) := by omega
    have h4 : ¬ (hK h a + 140 = 64 * hK h a + 1 ∧ q = a ∧ i = 0) := fun z => hne z.2.1.symm
    simp only [hR_sI, hR_sR, hR_grown, hK_sI, hN_sI, hd0, this, h3, h4, and_self, and_false, if_true, if_false]
  · rw [hd]; simp only [hR_sI, hR_sR, and_self, if_true]
def wp_Jx4a65c_add_9ea2d_0 (kd : Nat) (P : Option Value → hp_T → Prop) (X : String → hp_T → Prop) : KT :=
  i_aload 0 (i_dup (i_getI kd (64 * kd + 0) (i_pushI 1 (i_iadd (i_putI kd (64 * kd + 0) (i_aload 0 (i_aload 1 (i_aload 0 (i_getR kd (64 * kd + 1) (i_aload 0 (i_getI kd (64 * kd + 2) (i_callV 3 1 T_Jx4a65c_add_72be8 noX
    (i_pushI 1 (i_zret P))))))))))))))
set_option maxRecDepth 20000 in
theorem go_Jx4a65c_add_9ea2d_0 {kd : Nat} (hkL : isL kd) {z : zT} {P : Option Value → hp_T → Prop} {X : String → hp_T → Prop} (hz : Cx z cJx4a65c_add_9ea2d 2 "java/util/ArrayList" "add" 7 1 100) (hr : Rt z (some .boolean) P X 1 100) : Go z 0 0 0 (wp_Jx4a65c_add_9ea2d_0 kd P X) := have hkd := isL_kO hkL; have hk0 := isL_0 hkL;
  s_aload_n hz rfl dJx4a65c_add_9ea2d_0 (s_dup hz dJx4a65c_add_9ea2d_1 (s_getI (i := 0) hz hkd hk0 cls0 rfl rfl ⟨w80, Or.inr w81⟩ dJx4a65c_add_9ea2d_2 (s_iconst hz rfl dJx4a65c_add_9ea2d_5
    (s_iadd hz dJx4a65c_add_9ea2d_6 (s_putI (i := 0) hz hkd hk0 cls0 rfl rfl ⟨w80, Or.inr w81⟩ rfl (Or.inl rfl) dJx4a65c_add_9ea2d_7 (s_aload_n hz rfl dJx4a65c_add_9ea2d_10 (s_aload_n hz rfl dJx4a65c_add_9ea2d_11
    (s_aload_n hz rfl dJx4a65c_add_9ea2d_12 (s_getR (i := 1) hz hkd hk0 cls0 rfl rfl ⟨w77, Or.inl rfl⟩ dJx4a65c_add_9ea2d_13 (s_aload_n hz rfl dJx4a65c_add_9ea2d_16 (s_getI (i := 2) hz hkd hk0 cls0 rfl rfl ⟨w78, Or.inl rfl⟩ dJx4a65c_add_9ea2d_17
    (s_callV hz ct_Jx4a65c_add_72be8 ⟨w340, w343, w32, by decide, by decide, by decide +kernel⟩ w342 w8 cls0 rfl rfl rfl rfl rfl rfl out_no dJx4a65c_add_9ea2d_20 (s_iconst hz rfl dJx4a65c_add_9ea2d_23
    (s_zret hz hr rfl rfl dJx4a65c_add_9ea2d_24))))))))))))))

def T_Jx4a65c_add_9ea2d : PT := fun av h P X => match av with
  | [.ref a, .ref v] => (lOK h a ∧ lsz h a < 40 ∧ objK (hK h v)) ∧ (∀ h', LAdd h h' a v → P (some (.int 1)) h')
  | _ => False
set_option maxRecDepth 20000 in
theorem ct_Jx4a65c_add_9ea2d : CT yJx4a65c_add_9ea2d cJx4a65c_add_9ea2d 2 (some .boolean) 7 1 100 T_Jx4a65c_add_9ea2d := by
  refine ct_ofE (by decide) (fun z av h P X hT hz hr => ?_) (fun av h P X hT => ?_)
  · unfold T_Jx4a65c_add_9ea2d at hT
    split at hT
    · refine ⟨_, go_Jx4a65c_add_9ea2d_0 (hT.1.1.1) hz hr, ?_⟩
      rename_i a v
      show wp_Jx4a65c_add_9ea2d_0 (hK h a) P X [some (.ref a), some (.ref v)] [] h
      obtain ⟨hk, hp⟩ := hT
      obtain ⟨k, n40, kv⟩ := hk
      have k1 := k.1
      have k2 := k.2.1
      have k3 := k.2.2.1
      have h02 : ¬ 64 * hK h a + 2 = 64 * hK h a + 0 := by omega
      have hn60 : lsz h a ≤ hN h (lda h a) ∧ hN h (lda h a) ≤ 60 := by
        rcases k.2.2.2.2.1 with ⟨-, e2, -, e4⟩ | ⟨-, e2, -, e4⟩
        · omega
        · exact ⟨e2, e4⟩
      have s0 : ∀ x, lsz (hsI h (64 * hK h a + 0) a 0 x) a = lsz h a := fun x => by
        unfold lsz
        simp only [hK_sI, hI_sI, h02, false_and, if_false]
      have d0 : ∀ x, lda (hsI h (64 * hK h a + 0) a 0 x) a = lda h a := fun x => rfl
      have ok0 : ∀ x, lOK (hsI h (64 * hK h a + 0) a 0 x) a := fun x => by
        refine ⟨k.1, k.2.1, ?_, ?_, by have z := k.2.2.2.2; rw [← s0 x] at z; exact z⟩
        · rw [s0]; simp only [hK_sI, hI_sI, h02, false_and, if_false]; exact k.2.2.1
        · rw [s0]; exact k.2.2.2.1
      simp only [wp_Jx4a65c_add_9ea2d_0, T_Jx4a65c_add_72be8, k2, h02, k3, isL_kC k1, s0, d0, i_mmax, i_mmin, i_pushI, i_pushN, i_pushL, i_iload, i_aload, i_istore, i_astore, i_iinc, i_iadd, i_isub, i_imul, i_iand, i_ior, i_ixor, i_ishl, i_ishr, i_iushr, i_idiv, i_i2l, i_lcmp, i_dup, i_pop, i_dupx1, i_dup2, i_ifeq, i_ifne, i_iflt, i_ifge, i_ifgt, i_ifle, i_iceq, i_icne, i_iclt, i_icge, i_icgt, i_icle, i_ifnull, i_aceq, i_getI, i_getR, i_putI, i_putZ, i_putR, i_new, i_newarr, i_ald, i_lald, i_aald, i_alen, i_ast, i_zast, i_last, i_aast, i_aastL, i_cast, i_gste, i_ldcM, i_getC, i_acopy, i_dead, i_objinit, i_callV, i_callS, i_callI, i_iret, i_zret, i_aret, i_vret, i_throw, popN, pushO, lget, lset, isRf_ref, isRf_null, isRf_rf, isC1_int, isC1_ref, isC1_null, isC1_rf, true_and, and_true, List.length_cons, List.length_nil, Nat.reduceAdd, Nat.reduceLeDiff, hK_sI, hN_sI, hR_sI, hI_sI, hK_sR, hN_sR, hR_sR, hI_sR, kC_2, kC_3, kC_4, kC_5, kC_6, kC_7, kC_8, kC_9, kC_10, kC_11, kC_20, kC_21, kC_22, kC_23, i2_0, i1_1, i0_1, i1_0, bI_and, bI_0, Decidable.not_not, not_false_eq_true, not_true_eq_false, forall_const, false_implies, true_implies, hK_copy, hN_copy, hI_copy, hC_sI, hC_sR, hC_new, hK_new, hN_new, hI_new, hR_new, rf_some, rf_none, ex_ref, ex_null, ex_rf, nref_null, rf_null, Nat.reduceEqDiff, reduceCtorEq, false_and, and_false, if_false, if_true, ne_eq, kO_150, kO_151, kO_152, kO_170, kO_180, kO_190, Value.ref.injEq, exists_eq_left', false_or]
      refine ⟨⟨ok0 _, n40, kv⟩, fun hlt => hp _ ?_, fun e q c hq hc => hp _ ?_⟩
      · rcases k.2.2.2.2.1 with ⟨-, e2, -, e4⟩ | ⟨e1, -⟩
        · omega
        · exact add_A k e1 n40 hlt hn60.2
      · exact add_B k n40 e hq hc
    · exact hT.elim
  · unfold T_Jx4a65c_add_9ea2d at hT
    split at hT
    · exact ⟨Nat.le_of_ble_eq_true rfl, by simp [isC1_int, isC1_ref, isC1_null, isC1_rf]⟩
    · exact hT.elim
def wp_Jxa1e45_init_da8c8_0 (P : Option Value → hp_T → Prop) (X : String → hp_T → Prop) : KT :=
  i_aload 0 (i_objinit (i_vret P))
set_option maxRecDepth 20000 in
theorem go_Jxa1e45_init_da8c8_0 {z : zT} {P : Option Value → hp_T → Prop} {X : String → hp_T → Prop} (hz : Cx z cJxa1e45_init_da8c8 1 "java/util/AbstractCollection" "<init>" 1 0 0) (hr : Rt z none P X 0 0) : Go z 0 0 0 (wp_Jxa1e45_init_da8c8_0 P X) := 
  s_aload_n hz rfl dJxa1e45_init_da8c8_0 (s_objinit hz w74 w61 w62 rfl dJxa1e45_init_da8c8_1 (s_vret hz hr rfl rfl dJxa1e45_init_da8c8_4))

def T_Jxa1e45_init_da8c8 : PT := fun av h P X => match av with
  | [.ref a] => (True) ∧ (P none h)
  | _ => False
set_option maxRecDepth 20000 in
theorem ct_Jxa1e45_init_da8c8 : CT yJxa1e45_init_da8c8 cJxa1e45_init_da8c8 1 none 1 0 0 T_Jxa1e45_init_da8c8 := by
  refine ct_ofE (by decide) (fun z av h P X hT hz hr => ?_) (fun av h P X hT => ?_)
  · unfold T_Jxa1e45_init_da8c8 at hT
    split at hT
    · refine ⟨_, go_Jxa1e45_init_da8c8_0 hz hr, ?_⟩
      rename_i a
      show wp_Jxa1e45_init_da8c8_0 P X [some (.ref a)] [] h
      obtain ⟨hk, hp⟩ := hT
      simp only [wp_Jxa1e45_init_da8c8_0, i_mmax, i_mmin, i_pushI, i_pushN, i_pushL, i_iload, i_aload, i_istore, i_astore, i_iinc, i_iadd, i_isub, i_imul, i_iand, i_ior, i_ixor, i_ishl, i_ishr, i_iushr, i_idiv, i_i2l, i_lcmp, i_dup, i_pop, i_dupx1, i_dup2, i_ifeq, i_ifne, i_iflt, i_ifge, i_ifgt, i_ifle, i_iceq, i_icne, i_iclt, i_icge, i_icgt, i_icle, i_ifnull, i_aceq, i_getI, i_getR, i_putI, i_putZ, i_putR, i_new, i_newarr, i_ald, i_lald, i_aald, i_alen, i_ast, i_zast, i_last, i_aast, i_aastL, i_cast, i_gste, i_ldcM, i_getC, i_acopy, i_dead, i_objinit, i_callV, i_callS, i_callI, i_iret, i_zret, i_aret, i_vret, i_throw, popN, pushO, lget, lset, isRf_ref, isRf_null, isRf_rf, isC1_int, isC1_ref, isC1_null, isC1_rf, true_and, and_true, List.length_cons, List.length_nil, Nat.reduceAdd, Nat.reduceLeDiff, hK_sI, hN_sI, hR_sI, hI_sI, hK_sR, hN_sR, hR_sR, hI_sR, kC_2, kC_3, kC_4, kC_5, kC_6, kC_7, kC_8, kC_9, kC_10, kC_11, kC_20, kC_21, kC_22, kC_23, i2_0, i1_1, i0_1, i1_0, bI_and, bI_0, Decidable.not_not, not_false_eq_true, not_true_eq_false, forall_const, false_implies, true_implies, hK_copy, hN_copy, hI_copy, hC_sI, hC_sR, hC_new, hK_new, hN_new, hI_new, hR_new, rf_some, rf_none, ex_ref, ex_null, ex_rf, nref_null, rf_null, Nat.reduceEqDiff, reduceCtorEq, false_and, and_false, if_false, if_true, ne_eq, kO_150, kO_151, kO_152, kO_170, kO_180, kO_190, Value.ref.injEq, exists_eq_left', false_or, hk]
      (repeat' (first | (apply And.intro) | (intro _)))
      all_goals first | exact hp | (rw [bI_t (by clear hp; grind)] at hp; exact hp) | (rw [bI_f (by clear hp; grind)] at hp; exact hp) | (simp_all; done)
    · exact hT.elim
  · unfold T_Jxa1e45_init_da8c8 at hT
    split at hT
    · exact ⟨Nat.le_of_ble_eq_true rfl, by simp [isC1_int, isC1_ref, isC1_null, isC1_rf]⟩
    · exact hT.elim
def wp_Jxc12de_init_da8c8_0 (kd : Nat) (P : Option Value → hp_T → Prop) (X : String → hp_T → Prop) : KT :=
  i_aload 0 (i_callI 0 T_Jxa1e45_init_da8c8 noX (i_aload 0 (i_pushI 0 (i_putI kd (64 * kd + 0) (i_vret P)))))
set_option maxRecDepth 20000 in
theorem go_Jxc12de_init_da8c8_0 {kd : Nat} (hkL : isL kd) {z : zT} {P : Option Value → hp_T → Prop} {X : String → hp_T → Prop} (hz : Cx z cJxc12de_init_da8c8 1 "java/util/AbstractList" "<init>" 2 0 0) (hr : Rt z none P X 0 0) : Go z 0 0 0 (wp_Jxc12de_init_da8c8_0 kd P X) := have hkd := isL_kO hkL; have hk0 := isL_0 hkL;
  s_aload_n hz rfl dJxc12de_init_da8c8_0 (s_callI hz ct_Jxa1e45_init_da8c8 ⟨w71, w73, w30, by decide, by decide, by decide +kernel⟩ w72 rfl rfl rfl rfl rfl out_no dJxc12de_init_da8c8_1
    (s_aload_n hz rfl dJxc12de_init_da8c8_4 (s_iconst hz rfl dJxc12de_init_da8c8_5 (s_putI (i := 0) hz hkd hk0 cls0 rfl rfl ⟨w79, Or.inl rfl⟩ rfl (Or.inl rfl) dJxc12de_init_da8c8_6 (s_vret hz hr rfl rfl dJxc12de_init_da8c8_9)))))

def T_Jxc12de_init_da8c8 : PT := fun av h P X => match av with
  | [.ref a] => (isL (hK h a)) ∧ (P none (hsI h (64 * hK h a + 0) a 0 0))
  | _ => False
set_option maxRecDepth 20000 in
theorem ct_Jxc12de_init_da8c8 : CT yJxc12de_init_da8c8 cJxc12de_init_da8c8 1 none 2 0 0 T_Jxc12de_init_da8c8 := by
  refine ct_ofE (by decide) (fun z av h P X hT hz hr => ?_) (fun av h P X hT => ?_)
  · unfold T_Jxc12de_init_da8c8 at hT
    split at hT
    · refine ⟨_, go_Jxc12de_init_da8c8_0 (hT.1) hz hr, ?_⟩
      rename_i a
      show wp_Jxc12de_init_da8c8_0 (hK h a) P X [some (.ref a)] [] h
      obtain ⟨hk, hp⟩ := hT
      simp only [wp_Jxc12de_init_da8c8_0, T_Jxa1e45_init_da8c8, i_mmax, i_mmin, i_pushI, i_pushN, i_pushL, i_iload, i_aload, i_istore, i_astore, i_iinc, i_iadd, i_isub, i_imul, i_iand, i_ior, i_ixor, i_ishl, i_ishr, i_iushr, i_idiv, i_i2l, i_lcmp, i_dup, i_pop, i_dupx1, i_dup2, i_ifeq, i_ifne, i_iflt, i_ifge, i_ifgt, i_ifle, i_iceq, i_icne, i_iclt, i_icge, i_icgt, i_icle, i_ifnull, i_aceq, i_getI, i_getR, i_putI, i_putZ, i_putR, i_new, i_newarr, i_ald, i_lald, i_aald, i_alen, i_ast, i_zast, i_last, i_aast, i_aastL, i_cast, i_gste, i_ldcM, i_getC, i_acopy, i_dead, i_objinit, i_callV, i_callS, i_callI, i_iret, i_zret, i_aret, i_vret, i_throw, popN, pushO, lget, lset, isRf_ref, isRf_null, isRf_rf, isC1_int, isC1_ref, isC1_null, isC1_rf, true_and, and_true, List.length_cons, List.length_nil, Nat.reduceAdd, Nat.reduceLeDiff, hK_sI, hN_sI, hR_sI, hI_sI, hK_sR, hN_sR, hR_sR, hI_sR, kC_2, kC_3, kC_4, kC_5, kC_6, kC_7, kC_8, kC_9, kC_10, kC_11, kC_20, kC_21, kC_22, kC_23, i2_0, i1_1, i0_1, i1_0, bI_and, bI_0, Decidable.not_not, not_false_eq_true, not_true_eq_false, forall_const, false_implies, true_implies, hK_copy, hN_copy, hI_copy, hC_sI, hC_sR, hC_new, hK_new, hN_new, hI_new, hR_new, rf_some, rf_none, ex_ref, ex_null, ex_rf, nref_null, rf_null, Nat.reduceEqDiff, reduceCtorEq, false_and, and_false, if_false, if_true, ne_eq, kO_150, kO_151, kO_152, kO_170, kO_180, kO_190, Value.ref.injEq, exists_eq_left', false_or, hk]
      (repeat' (first | (apply And.intro) | (intro _)))
      all_goals first | exact hp | (rw [bI_t (by clear hp; grind)] at hp; exact hp) | (rw [bI_f (by clear hp; grind)] at hp; exact hp) | (simp_all; done)
    · exact hT.elim
  · unfold T_Jxc12de_init_da8c8 at hT
    split at hT
    · exact ⟨Nat.le_of_ble_eq_true rfl, by simp [isC1_int, isC1_ref, isC1_null, isC1_rf]⟩
    · exact hT.elim
def wp_Jx4a65c_init_da8c8_0 (kd : Nat) (P : Option Value → hp_T → Prop) (X : String → hp_T → Prop) : KT :=
  i_aload 0 (i_callI 0 T_Jxc12de_init_da8c8 noX (i_aload 0 (i_gste (i_putR kd (64 * kd + 1) (i_vret P)))))
set_option maxRecDepth 20000 in
theorem go_Jx4a65c_init_da8c8_0 {kd : Nat} (hkL : isL kd) {z : zT} {P : Option Value → hp_T → Prop} {X : String → hp_T → Prop} (hz : Cx z cJx4a65c_init_da8c8 1 "java/util/ArrayList" "<init>" 3 0 0) (hr : Rt z none P X 0 0) : Go z 0 0 0 (wp_Jx4a65c_init_da8c8_0 kd P X) := have hkd := isL_kO hkL; have hk0 := isL_0 hkL;
  s_aload_n hz rfl dJx4a65c_init_da8c8_0 (s_callI hz ct_Jxc12de_init_da8c8 ⟨w68, w70, w31, by decide, by decide, by decide +kernel⟩ w69 rfl rfl rfl rfl rfl out_no dJx4a65c_init_da8c8_1
    (s_aload_n hz rfl dJx4a65c_init_da8c8_4 (s_gste hz w75 dJx4a65c_init_da8c8_5 (s_putR (i := 1) hz hkd hk0 cls0 rfl rfl ⟨w77, Or.inl rfl⟩ rfl (rf_arr _) (Or.inl rfl) dJx4a65c_init_da8c8_8
    (s_vret hz hr rfl rfl dJx4a65c_init_da8c8_11)))))

def T_Jx4a65c_init_da8c8 : PT := fun av h P X => match av with
  | [.ref a] => (isL (hK h a)) ∧ (hK h (hC h 0) = 190 ∧ hN h (hC h 0) = 0 → P none (hsR (hsI h (64 * hK h a + 0) a 0 0) (64 * hK h a + 1) a 0 (some (hC h 0))))
  | _ => False
set_option maxRecDepth 20000 in
theorem ct_Jx4a65c_init_da8c8 : CT yJx4a65c_init_da8c8 cJx4a65c_init_da8c8 1 none 3 0 0 T_Jx4a65c_init_da8c8 := by
  refine ct_ofE (by decide) (fun z av h P X hT hz hr => ?_) (fun av h P X hT => ?_)
  · unfold T_Jx4a65c_init_da8c8 at hT
    split at hT
    · refine ⟨_, go_Jx4a65c_init_da8c8_0 (hT.1) hz hr, ?_⟩
      rename_i a
      show wp_Jx4a65c_init_da8c8_0 (hK h a) P X [some (.ref a)] [] h
      obtain ⟨hk, hp⟩ := hT
      simp only [wp_Jx4a65c_init_da8c8_0, T_Jxc12de_init_da8c8, hC_sI, i_mmax, i_mmin, i_pushI, i_pushN, i_pushL, i_iload, i_aload, i_istore, i_astore, i_iinc, i_iadd, i_isub, i_imul, i_iand, i_ior, i_ixor, i_ishl, i_ishr, i_iushr, i_idiv, i_i2l, i_lcmp, i_dup, i_pop, i_dupx1, i_dup2, i_ifeq, i_ifne, i_iflt, i_ifge, i_ifgt, i_ifle, i_iceq, i_icne, i_iclt, i_icge, i_icgt, i_icle, i_ifnull, i_aceq, i_getI, i_getR, i_putI, i_putZ, i_putR, i_new, i_newarr, i_ald, i_lald, i_aald, i_alen, i_ast, i_zast, i_last, i_aast, i_aastL, i_cast, i_gste, i_ldcM, i_getC, i_acopy, i_dead, i_objinit, i_callV, i_callS, i_callI, i_iret, i_zret, i_aret, i_vret, i_throw, popN, pushO, lget, lset, isRf_ref, isRf_null, isRf_rf, isC1_int, isC1_ref, isC1_null, isC1_rf, true_and, and_true, List.length_cons, List.length_nil, Nat.reduceAdd, Nat.reduceLeDiff, hK_sI, hN_sI, hR_sI, hI_sI, hK_sR, hN_sR, hR_sR, hI_sR, kC_2, kC_3, kC_4, kC_5, kC_6, kC_7, kC_8, kC_9, kC_10, kC_11, kC_20, kC_21, kC_22, kC_23, i2_0, i1_1, i0_1, i1_0, bI_and, bI_0, Decidable.not_not, not_false_eq_true, not_true_eq_false, forall_const, false_implies, true_implies, hK_copy, hN_copy, hI_copy, hC_sI, hC_sR, hC_new, hK_new, hN_new, hI_new, hR_new, rf_some, rf_none, ex_ref, ex_null, ex_rf, nref_null, rf_null, Nat.reduceEqDiff, reduceCtorEq, false_and, and_false, if_false, if_true, ne_eq, kO_150, kO_151, kO_152, kO_170, kO_180, kO_190, Value.ref.injEq, exists_eq_left', false_or]
      exact ⟨hk, hp⟩
    · exact hT.elim
  · unfold T_Jx4a65c_init_da8c8 at hT
    split at hT
    · exact ⟨Nat.le_of_ble_eq_true rfl, by simp [isC1_int, isC1_ref, isC1_null, isC1_rf]⟩
    · exact hT.elim
def hfill (h : hp_T) (kd a n : Nat) (v : Int32) : hp_T := (h.1, h.2.1, fun g b i => if g = kd ∧ b = a ∧ i < n then v else h.2.2.1 g b i, h.2.2.2.1, h.2.2.2.2)
theorem hK_fill (h : hp_T) (kd a n : Nat) (v : Int32) (b : Nat) : hK (hfill h kd a n v) b = hK h b := rfl
theorem hN_fill (h : hp_T) (kd a n : Nat) (v : Int32) (b : Nat) : hN (hfill h kd a n v) b = hN h b := rfl
theorem hC_fill (h : hp_T) (kd a n : Nat) (v : Int32) (i : Nat) : hC (hfill h kd a n v) i = hC h i := rfl
theorem hR_fill (h : hp_T) (kd a n : Nat) (v : Int32) (g b i : Nat) : hR (hfill h kd a n v) g b i = hR h g b i := rfl
theorem hI_fill (h : hp_T) (kd a n : Nat) (v : Int32) (g b i : Nat) : hI (hfill h kd a n v) g b i = if g = kd ∧ b = a ∧ i < n then v else hI h g b i := rfl
theorem hfill_0 (h : hp_T) (kd a : Nat) (v : Int32) : hfill h kd a 0 v = h := by
  unfold hfill
  simp only [Nat.not_lt_zero, and_false, if_false]
theorem hfill_s (h : hp_T) (kd a n : Nat) (v : Int32) : hsI (hfill h kd a n v) kd a n v = hfill h kd a (n + 1) v := by
  unfold hfill hsI
  refine Prod.ext rfl (Prod.ext rfl (Prod.ext ?_ rfl))
  funext g b i
  dsimp only
  by_cases c : g = kd ∧ b = a
  · obtain ⟨rfl, rfl⟩ := c
    by_cases c2 : i = n
    · simp [c2]
    · by_cases c3 : i < n
      · simp [c2, c3, Nat.lt_succ_of_lt c3]
      · have : ¬ i < n + 1 := by omega
        simp [c2, c3, this]
  · have c1 : ¬ (g = kd ∧ b = a ∧ i = n) := fun z => c ⟨z.1, z.2.1⟩
    have c2 : ¬ (g = kd ∧ b = a ∧ i < n) := fun z => c ⟨z.1, z.2.1⟩
    have c3 : ¬ (g = kd ∧ b = a ∧ i < n + 1) := fun z => c ⟨z.1, z.2.1⟩
    rw [if_neg c1, if_neg c2, if_neg c3]
def wp_J7_fill_53178_0 (kd : Nat) (P : Option Value → hp_T → Prop) (X : String → hp_T → Prop) (K5 : KT) : KT :=
  i_pushI 0 (i_istore 2 (i_aload 0 (i_alen (i_istore 3 K5))))
set_option maxRecDepth 20000 in
theorem go_J7_fill_53178_0 {kd : Nat} (hkL : isF kd) {z : zT} {P : Option Value → hp_T → Prop} {X : String → hp_T → Prop} {K5 : KT} (hz : Cx z cJ7_fill_53178 4 "java/util/Arrays" "fill" 0 0 0) (hr : Rt z none P X 0 0) (h5 : Go z 0 0 5 K5) : Go z 0 0 0 (wp_J7_fill_53178_0 kd P X K5) := 
  s_iconst hz rfl dJ7_fill_53178_0 (s_istore_n hz rfl rfl dJ7_fill_53178_1 (s_aload_n hz rfl dJ7_fill_53178_2 (s_alen hz dJ7_fill_53178_3 (s_istore_n hz rfl rfl dJ7_fill_53178_4 h5))))
def wp_J7_fill_53178_5 (kd : Nat) (P : Option Value → hp_T → Prop) (X : String → hp_T → Prop) (K5 : KT) : KT :=
  i_iload 2 (i_iload 3 (i_icge (i_vret P) (i_aload 0 (i_iload 2 (i_iload 1 (i_ast kd (i_iinc 2 1 K5)))))))
set_option maxRecDepth 20000 in
theorem go_J7_fill_53178_5 {kd : Nat} (hkL : isF kd) {z : zT} {P : Option Value → hp_T → Prop} {X : String → hp_T → Prop} {K5 : KT} (hz : Cx z cJ7_fill_53178 4 "java/util/Arrays" "fill" 0 0 0) (hr : Rt z none P X 0 0) (h5 : Go z 0 0 5 K5) : Go z 0 0 5 (wp_J7_fill_53178_5 kd P X K5) := 
  s_iload_n hz rfl dJ7_fill_53178_5 (s_iload_n hz rfl dJ7_fill_53178_6 (s_icge hz (tgt := 20) rfl dJ7_fill_53178_7 (s_vret hz hr rfl rfl dJ7_fill_53178_20) (s_aload_n hz rfl dJ7_fill_53178_10
    (s_iload_n hz rfl dJ7_fill_53178_11 (s_iload_n hz rfl dJ7_fill_53178_12 (s_iast hz (isF_kO hkL) (isF_0 hkL) (isF_9 hkL) (isF_A hkL) dJ7_fill_53178_13 (s_iinc hz rfl rfl dJ7_fill_53178_14
    (s_goto hz (tgt := 5) rfl dJ7_fill_53178_17 h5))))))))
def T_J7_fill_53178 : PT := fun av h P X => match av with
  | [.ref a, .int v] => (isF (hK h a) ∧ hN h a < 1000) ∧ P none (hfill h (hK h a) a (hN h a) v)
  | _ => False
theorem ct_J7_fill_53178 : CT yJ7_fill_53178 cJ7_fill_53178 4 none 0 0 0 T_J7_fill_53178 := by
  refine ct_ofE (by decide) (fun z av h P X hT hz hr => ?_) (fun av h P X hT => ?_)
  · unfold T_J7_fill_53178 at hT
    split at hT
    · rename_i a v
      obtain ⟨⟨k1, k2⟩, hp⟩ := hT
      have kk : kO (hK h a) = none := isF_kO k1
      have k0 : hK h a ≠ 0 := by rcases k1 with e | e <;> rw [e] <;> decide
      have hloop := Go.loop (z := z) (cells := 0) (slots := 0) (pc := 5) (fun n ls st h' => ∃ i, i + n = hN h a ∧ ls = [some (.ref a), some (.int v), some (.int (nI i)), some (.int (nI (hN h a)))] ∧ st = [] ∧ h' = hfill h (hK h a) a i v) (fun k => wp_J7_fill_53178_5 (hK h a) P X k) (fun k hk => go_J7_fill_53178_5 k1 hz hr hk) (by
        rintro n ls st h' ⟨i, hi, rfl, rfl, rfl⟩
        simp only [wp_J7_fill_53178_5, hK_fill, hN_fill, i_mmax, i_mmin, i_pushI, i_pushN, i_pushL, i_iload, i_aload, i_istore, i_astore, i_iinc, i_iadd, i_isub, i_imul, i_iand, i_ior, i_ixor, i_ishl, i_ishr, i_iushr, i_idiv, i_i2l, i_lcmp, i_dup, i_pop, i_dupx1, i_dup2, i_ifeq, i_ifne, i_iflt, i_ifge, i_ifgt, i_ifle, i_iceq, i_icne, i_iclt, i_icge, i_icgt, i_icle, i_ifnull, i_aceq, i_getI, i_getR, i_putI, i_putZ, i_putR, i_new, i_newarr, i_ald, i_lald, i_aald, i_alen, i_ast, i_zast, i_last, i_aast, i_aastL, i_cast, i_gste, i_ldcM, i_getC, i_acopy, i_dead, i_objinit, i_callV, i_callS, i_callI, i_iret, i_zret, i_aret, i_vret, i_throw, popN, pushO, lget, lset, isRf_ref, isRf_null, isRf_rf, isC1_int, isC1_ref, isC1_null, isC1_rf, true_and, and_true, List.length_cons, List.length_nil, Nat.reduceAdd, Nat.reduceLeDiff, hK_sI, hN_sI, hR_sI, hI_sI, hK_sR, hN_sR, hR_sR, hI_sR, kC_2, kC_3, kC_4, kC_5, kC_6, kC_7, kC_8, kC_9, kC_10, kC_11, kC_20, kC_21, kC_22, kC_23, i2_0, i1_1, i0_1, i1_0, bI_and, bI_0, Decidable.not_not, not_false_eq_true, not_true_eq_false, forall_const, false_implies, true_implies, hK_copy, hN_copy, hI_copy, hC_sI, hC_sR, hC_new, hK_new, hN_new, hI_new, hR_new, rf_some, rf_none, ex_ref, ex_null, ex_rf, nref_null, rf_null, Nat.reduceEqDiff, reduceCtorEq, false_and, and_false, if_false, if_true, ne_eq, kO_150, kO_151, kO_152, kO_170, kO_180, kO_190, Value.ref.injEq, exists_eq_left', false_or]
        refine ⟨fun c => ?_, fun c => ?_⟩
        · have : i = hN h a := by
            rcases Nat.lt_or_ge i (hN h a) with q | q
            · exact absurd c (nI_ge q (by omega))
            · omega
          rw [this]; exact hp
        · have hlt : i < hN h a := by
            rcases Nat.lt_or_ge i (hN h a) with q | q
            · exact q
            · exact absurd (nI_le q (by omega)) c
          refine ⟨vp_in_nI hlt (by omega), n - 1, by omega, i + 1, by omega, ?_, ?_⟩
          · rw [nI_1]
          · rw [nI_clamp (by omega), hfill_s])
      refine ⟨_, go_J7_fill_53178_0 k1 hz hr hloop, ?_⟩
      show wp_J7_fill_53178_0 (hK h a) P X _ [some (.ref a), some (.int v), none, none] [] h
      simp only [wp_J7_fill_53178_0, kk, k0, ne_eq, i_mmax, i_mmin, i_pushI, i_pushN, i_pushL, i_iload, i_aload, i_istore, i_astore, i_iinc, i_iadd, i_isub, i_imul, i_iand, i_ior, i_ixor, i_ishl, i_ishr, i_iushr, i_idiv, i_i2l, i_lcmp, i_dup, i_pop, i_dupx1, i_dup2, i_ifeq, i_ifne, i_iflt, i_ifge, i_ifgt, i_ifle, i_iceq, i_icne, i_iclt, i_icge, i_icgt, i_icle, i_ifnull, i_aceq, i_getI, i_getR, i_putI, i_putZ, i_putR, i_new, i_newarr, i_ald, i_lald, i_aald, i_alen, i_ast, i_zast, i_last, i_aast, i_aastL, i_cast, i_gste, i_ldcM, i_getC, i_acopy, i_dead, i_objinit, i_callV, i_callS, i_callI, i_iret, i_zret, i_aret, i_vret, i_throw, popN, pushO, lget, lset, isRf_ref, isRf_null, isRf_rf, isC1_int, isC1_ref, isC1_null, isC1_rf, true_and, and_true, List.length_cons, List.length_nil, Nat.reduceAdd, Nat.reduceLeDiff, hK_sI, hN_sI, hR_sI, hI_sI, hK_sR, hN_sR, hR_sR, hI_sR, kC_2, kC_3, kC_4, kC_5, kC_6, kC_7, kC_8, kC_9, kC_10, kC_11, kC_20, kC_21, kC_22, kC_23, i2_0, i1_1, i0_1, i1_0, bI_and, bI_0, Decidable.not_not, not_false_eq_true, not_true_eq_false, forall_const, false_implies, true_implies, hK_copy, hN_copy, hI_copy, hC_sI, hC_sR, hC_new, hK_new, hN_new, hI_new, hR_new, rf_some, rf_none, ex_ref, ex_null, ex_rf, nref_null, rf_null, Nat.reduceEqDiff, reduceCtorEq, false_and, and_false, if_false, if_true, ne_eq, kO_150, kO_151, kO_152, kO_170, kO_180, kO_190, Value.ref.injEq, exists_eq_left', false_or]
      exact ⟨hN h a, 0, by omega, rfl, (hfill_0 h _ a v).symm⟩
    · exact hT.elim
  · unfold T_J7_fill_53178 at hT
    split at hT
    · exact ⟨Nat.le_of_ble_eq_true rfl, by simp [isC1_int, isC1_ref, isC1_null, isC1_rf]⟩
    · exact hT.elim
