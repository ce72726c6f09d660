theorem pBeg_ext {h h' : hp_T} (e : Ext h h') {a : Nat} (k : pgOK h a) (c : Int32) : pBeg h' a c = pBeg h a c ∧ pEnd h' a c = pEnd h a c := by
  obtain ⟨-, q1, q2, q3, q4, q5, -⟩ := k.ext e
  have key : ∀ j, j < pnN h a → ∀ g, hI h' g (pb h' a j) 0 = hI h g (pb h a j) 0 := fun j hj g => by
    have kb : hK h (pb h a j) = 3 := (k.2.1.2.2.2.2 j hj).2.1.2
    rw [q5 j hj, ((e.1 _ (by rw [kb]; decide)).2.2 _ _).1]
  constructor
  · funext j
    unfold pBeg
    rw [q1]
    by_cases hj : j < pnN h a
    · rw [if_pos hj, if_pos hj, key j hj, key j hj]
    · rw [if_neg hj, if_neg hj]
  · funext j
    unfold pEnd
    rw [q1]
    by_cases hj : j < pnN h a
    · rw [if_pos hj, if_pos hj, key j hj, key j hj, key j hj, key j hj]
    · rw [if_neg hj, if_neg hj]
noncomputable abbrev rdG (h : hp_T) (a : Nat) (l : Int32) : List Nat × Int32 := readG (pnN h a) (pBeg h a) (pEnd h a) l
/-- a reading of a page, ready -/
def rdOf (h h' : hp_T) (a : Nat) (l : Int32) (r : Nat) : Prop := rdOK h' r ∧ dR h' 448 r = a ∧ hI h' 449 r 0 = l ∧ (rdG h a l).1.length ≤ 8 ∧ hI h' 451 r 0 = nI (rdG h a l).1.length ∧ hI h' 452 r 0 = (rdG h a l).2 ∧ ∀ i, i < 8 → hI h' 150 (dR h' 450 r) i = ordI (rdG h a l).1 i
theorem read_start {h : hp_T} {a r o : Nat} {l : Int32} (k : pgOK h a) (kl : l &&& 1 = l) (hr : hK h r = 0) (ho : hK h o = 0) (ne : ¬ o = r) :
    Ext h (hread (hnew h r 7 0) r a o l) ∧ rdOK (hread (hnew h r 7 0) r a o l) r ∧ dR (hread (hnew h r 7 0) r a o l) 448 r = a ∧ hI (hread (hnew h r 7 0) r a o l) 449 r 0 = l ∧ dR (hread (hnew h r 7 0) r a o l) 450 r = o ∧ hread (hnew h r 7 0) r a o l = hrd (hread (hnew h r 7 0) r a o l) r o [] 0 := by
  have ne' : ¬ r = o := fun e => ne e.symm
  have eE : Ext h (hread (hnew h r 7 0) r a o l) := by
    refine ⟨fun b hb => ?_, fun _ => rfl⟩
    have n1 : ¬ b = r := fun e => hb (by rw [e]; exact hr)
    have n2 : ¬ b = o := fun e => hb (by rw [e]; exact ho)
    unfold hread
    simp only [hK_sI, hN_sI, hI_sI, hR_sI, hC_sI, hK_sR, hN_sR, hI_sR, hR_sR, hC_sR, hK_new, hN_new, hI_new, hR_new, hC_new, hK_fill, hN_fill, hI_fill, hR_fill, hC_fill, n1, n2, false_and, and_false, if_false, and_self, implies_true]
  have d8 : hR (hread (hnew h r 7 0) r a o l) 448 r 0 = some a := by unfold hread; simp only [hK_sI, hN_sI, hI_sI, hR_sI, hC_sI, hK_sR, hN_sR, hI_sR, hR_sR, hC_sR, hK_new, hN_new, hI_new, hR_new, hC_new, hK_fill, hN_fill, hI_fill, hR_fill, hC_fill, and_self, if_true]
  have d5 : hR (hread (hnew h r 7 0) r a o l) 450 r 0 = some o := by unfold hread; simp only [hK_sI, hN_sI, hI_sI, hR_sI, hC_sI, hK_sR, hN_sR, hI_sR, hR_sR, hC_sR, hK_new, hN_new, hI_new, hR_new, hC_new, hK_fill, hN_fill, hI_fill, hR_fill, hC_fill, Nat.reduceEqDiff, and_self, false_and, if_true, if_false]
  have d9 : hI (hread (hnew h r 7 0) r a o l) 449 r 0 = l := by unfold hread; simp only [hK_sI, hN_sI, hI_sI, hR_sI, hC_sI, hK_sR, hN_sR, hI_sR, hR_sR, hC_sR, hK_new, hN_new, hI_new, hR_new, hC_new, hK_fill, hN_fill, hI_fill, hR_fill, hC_fill, Nat.reduceEqDiff, and_self, false_and, if_true, if_false]
  have k7 : hK (hread (hnew h r 7 0) r a o l) r = 7 := by unfold hread; simp only [hK_sI, hN_sI, hI_sI, hR_sI, hC_sI, hK_sR, hN_sR, hI_sR, hR_sR, hC_sR, hK_new, hN_new, hI_new, hR_new, hC_new, hK_fill, hN_fill, hI_fill, hR_fill, hC_fill, ne', if_true, if_false]
  have ko : hK (hread (hnew h r 7 0) r a o l) o = 150 ∧ hN (hread (hnew h r 7 0) r a o l) o = 8 := by unfold hread; simp only [hK_sI, hN_sI, hI_sI, hR_sI, hC_sI, hK_sR, hN_sR, hI_sR, hR_sR, hC_sR, hK_new, hN_new, hI_new, hR_new, hC_new, hK_fill, hN_fill, hI_fill, hR_fill, hC_fill, if_true, and_self]
  have e8 := dR_of d8
  have e5 := dR_of d5
  refine ⟨eE, ⟨⟨k7, by rw [e8]; exact d8, by rw [d9]; exact kl⟩, ⟨by rw [e5]; exact d5, by rw [e5]; exact ko.1, by rw [e5]; exact ko.2⟩, by rw [e8]; exact (k.ext eE).1⟩, e8, d9, e5, ?_⟩
  have z1 : hI (hread (hnew h r 7 0) r a o l) 451 r 0 = 0 := by unfold hread; simp only [hK_sI, hN_sI, hI_sI, hR_sI, hC_sI, hK_sR, hN_sR, hI_sR, hR_sR, hC_sR, hK_new, hN_new, hI_new, hR_new, hC_new, hK_fill, hN_fill, hI_fill, hR_fill, hC_fill, Nat.reduceEqDiff, ne', false_and, if_true, if_false]
  have z2 : hI (hread (hnew h r 7 0) r a o l) 452 r 0 = 0 := by unfold hread; simp only [hK_sI, hN_sI, hI_sI, hR_sI, hC_sI, hK_sR, hN_sR, hI_sR, hR_sR, hC_sR, hK_new, hN_new, hI_new, hR_new, hC_new, hK_fill, hN_fill, hI_fill, hR_fill, hC_fill, Nat.reduceEqDiff, ne', false_and, if_true, if_false]
  have z3 : ∀ i, i < 8 → hI (hread (hnew h r 7 0) r a o l) 150 o i = -1 := fun i hi => by unfold hread; simp only [hK_sI, hN_sI, hI_sI, hR_sI, hC_sI, hK_sR, hN_sR, hI_sR, hR_sR, hC_sR, hK_new, hN_new, hI_new, hR_new, hC_new, hK_fill, hN_fill, hI_fill, hR_fill, hC_fill, hi, and_self, if_true]
  generalize hread (hnew h r 7 0) r a o l = G at *
  unfold hrd
  refine Prod.ext rfl (Prod.ext rfl (Prod.ext ?_ rfl))
  funext g b i
  dsimp only
  by_cases c1 : g = 451 ∧ b = r ∧ i = 0
  · rw [if_pos c1, c1.1, c1.2.1, c1.2.2]; exact z1
  · rw [if_neg c1]
    by_cases c2 : g = 452 ∧ b = r ∧ i = 0
    · rw [if_pos c2, c2.1, c2.2.1, c2.2.2]; exact z2
    · rw [if_neg c2]
      by_cases c3 : g = 150 ∧ b = o ∧ i < 8
      · rw [if_pos c3, c3.1, c3.2.1]; exact z3 i c3.2.2
      · rw [if_neg c3]
theorem read_done {h h0 : hp_T} {a r o : Nat} {l : Int32} (k : pgOK h a) (hr : hK h r = 0) (ho : hK h o = 0) (e : Ext h h0) (k0 : rdOK h0 r) (d1 : dR h0 448 r = a) (d2 : hI h0 449 r 0 = l) (d3 : dR h0 450 r = o) :
    Ext h (hrd h0 r o (takeH h0 r 8 (nI (2 ^ pnN h a - 1)) [] 0).1 (takeH h0 r 8 (nI (2 ^ pnN h a - 1)) [] 0).2) ∧ rdOf h (hrd h0 r o (takeH h0 r 8 (nI (2 ^ pnN h a - 1)) [] 0).1 (takeH h0 r 8 (nI (2 ^ pnN h a - 1)) [] 0).2) a l r := by
  have hlen : (takeH h0 r 8 (nI (2 ^ pnN h a - 1)) [] 0).1.length ≤ 8 := takeR_len (fun _ _ hh => tbnL_len _ _ _ hh) _ _ _ _ (by decide)
  have eT : takeH h0 r 8 (nI (2 ^ pnN h a - 1)) [] 0 = rdG h a l := by
    have q1 := (k.ext e).2.1
    have b1 : pBeg h0 a = pBeg h a := funext fun c => (pBeg_ext e k c).1
    have b2 : pEnd h0 a = pEnd h a := funext fun c => (pBeg_ext e k c).2
    rw [takeH_G, d1, d2, q1, b1, b2]
    rfl
  rw [eT] at hlen ⊢
  unfold rdOf
  generalize rdG h a l = R at hlen ⊢
  subst d3
  refine ⟨⟨fun b hb => ?_, e.2⟩, (rd_same k0 R.1 R.2).1, d1, by rw [hI_rd0 _ _ _ _ _ (by decide) (by decide) (by decide)]; exact d2, hlen, by rw [hI_rd, if_pos ⟨rfl, rfl, rfl⟩], by rw [hI_rd, if_neg (fun z => absurd z.1 (by decide)), if_pos ⟨rfl, rfl, rfl⟩], fun i hi => by rw [dR_rd, hI_rd, if_neg (fun z => absurd z.1 (by decide)), if_neg (fun z => absurd z.1 (by decide)), if_pos ⟨rfl, rfl, hi⟩]⟩
  have n1 : ¬ b = r := fun z => hb (by rw [z]; exact hr)
  have n2 : ¬ b = dR h0 450 r := fun z => hb (by rw [z]; exact ho)
  obtain ⟨e1, e2, e3⟩ := e.1 b hb
  exact ⟨e1, e2, fun g i => ⟨by rw [hI_rd, if_neg (fun z => n1 z.2.1), if_neg (fun z => n1 z.2.1), if_neg (fun z => n2 z.2.1)]; exact (e3 g i).1, (e3 g i).2⟩⟩
def wp_X5_of_0 (P : Option Value → hp_T → Prop) (X : String → hp_T → Prop) : KT :=
  i_new 7 (i_dup (i_aload 0 (i_iload 1 (i_callI 2 T_X5_init noX (i_astore 2 (i_aload 2 (i_aload 0 (i_callV 0 5 T_X3_allPanels noX (i_pushI 0 (i_callS 3 T_X5_takeSet8 noX (i_aload 2 (i_aret P))))))))))))
set_option maxRecDepth 20000 in
theorem go_X5_of_0 {z : zT} {P : Option Value → hp_T → Prop} {X : String → hp_T → Prop} (hz : Cx z cX5_of 3 "Panelry$Reading" "of" 14 2 13) (hr : Rt z (some (.object "Panelry$Reading")) P X 2 13) : Go z 0 0 0 (wp_X5_of_0 P X) := 
  s_new hz kO_7 cls6 w138 w139 w49 rfl rfl dX5_of_0 (s_dup hz dX5_of_3 (s_aload_n hz rfl dX5_of_4 (s_iload_n hz rfl dX5_of_5 (s_callI hz ct_X5_init ⟨w140, w142, w49, by decide, by decide, by decide +kernel⟩ w141 rfl rfl rfl rfl rfl out_no dX5_of_6
    (s_astore_n hz rfl rfl dX5_of_9 (s_aload_n hz rfl dX5_of_10 (s_aload_n hz rfl dX5_of_11 (s_callV hz ct_X3_allPanels ⟨w163, w166, w38, by decide, by decide, by decide +kernel⟩ w164 w165 cls4 rfl rfl rfl rfl rfl rfl out_no dX5_of_12
    (s_iconst hz rfl dX5_of_15 (s_callS hz ct_X5_takeSet8 ⟨w168, w171, w49, by decide, by decide, by decide +kernel⟩ w170 rfl rfl rfl rfl out_no dX5_of_16 (s_aload_n hz rfl dX5_of_19
    (s_aret hz hr (Or.inl ⟨_, rfl⟩) rfl rfl dX5_of_20))))))))))))

def T_X5_of : PT := fun av h P X => match av with
  | [.ref a, .int l] => (pgOK h a ∧ l &&& 1 = l) ∧ (∀ h' r, Ext h h' → rdOf h h' a l r → P (some (.ref r)) h')
  | _ => False
set_option maxRecDepth 20000 in
theorem ct_X5_of : CT yX5_of cX5_of 3 (some (.object "Panelry$Reading")) 14 2 13 T_X5_of := by
  refine ct_ofE (by decide) (fun z av h P X hT hz hr => ?_) (fun av h P X hT => ?_)
  · unfold T_X5_of at hT
    split at hT
    · refine ⟨_, go_X5_of_0 hz hr, ?_⟩
      rename_i a l
      show wp_X5_of_0 P X [some (.ref a), some (.int l), none] [] h
      obtain ⟨hk, hp⟩ := hT
      obtain ⟨k, kl⟩ := hk
      have kA := k.1
      simp only [wp_X5_of_0, T_X5_init, T_X3_allPanels, T_X5_takeSet8, T_X5_takeSet, kA, kl, i_mmax, i_mmin, i_pushI, i_pushN, i_pushL, i_iload, i_aload, i_istore, i_astore, i_iinc, i_iadd, i_isub, i_imul, i_iand, i_ior, i_ixor, i_ishl, i_ishr, i_iushr, i_idiv, i_i2l, i_lcmp, i_dup, i_pop, i_dupx1, i_dup2, i_ifeq, i_ifne, i_iflt, i_ifge, i_ifgt, i_ifle, i_iceq, i_icne, i_iclt, i_icge, i_icgt, i_icle, i_ifnull, i_aceq, i_getI, i_getR, i_putI, i_putZ, i_putR, i_new, i_newarr, i_ald, i_lald, i_aald, i_alen, i_ast, i_zast, i_last, i_aast, i_aastL, i_cast, i_gste, i_ldcM, i_getC, i_acopy, i_dead, i_objinit, i_callV, i_callS, i_callI, i_iret, i_zret, i_aret, i_vret, i_throw, popN, pushO, lget, lset, isRf_ref, isRf_null, isRf_rf, isC1_int, isC1_ref, isC1_null, isC1_rf, true_and, and_true, List.length_cons, List.length_nil, Nat.reduceAdd, Nat.reduceLeDiff, hK_sI, hN_sI, hR_sI, hI_sI, hK_sR, hN_sR, hR_sR, hI_sR, kC_2, kC_3, kC_4, kC_5, kC_6, kC_7, kC_8, kC_9, kC_10, kC_11, kC_20, kC_21, kC_22, kC_23, i2_0, i1_1, i0_1, i1_0, bI_and, bI_0, Decidable.not_not, not_false_eq_true, not_true_eq_false, forall_const, false_implies, true_implies, hK_copy, hN_copy, hI_copy, hC_sI, hC_sR, hC_new, hK_new, hN_new, hI_new, hR_new, rf_some, rf_none, ex_ref, ex_null, ex_rf, nref_null, rf_null, Nat.reduceEqDiff, reduceCtorEq, false_and, and_false, if_false, if_true, ne_eq, kO_150, kO_151, kO_152, kO_170, kO_180, kO_190, Value.ref.injEq, exists_eq_left', false_or]
      intro r hr
      have na : ¬ a = r := fun e => by rw [e, hr] at kA; cases kA
      simp only [na, kA, kl, i_mmax, i_mmin, i_pushI, i_pushN, i_pushL, i_iload, i_aload, i_istore, i_astore, i_iinc, i_iadd, i_isub, i_imul, i_iand, i_ior, i_ixor, i_ishl, i_ishr, i_iushr, i_idiv, i_i2l, i_lcmp, i_dup, i_pop, i_dupx1, i_dup2, i_ifeq, i_ifne, i_iflt, i_ifge, i_ifgt, i_ifle, i_iceq, i_icne, i_iclt, i_icge, i_icgt, i_icle, i_ifnull, i_aceq, i_getI, i_getR, i_putI, i_putZ, i_putR, i_new, i_newarr, i_ald, i_lald, i_aald, i_alen, i_ast, i_zast, i_last, i_aast, i_aastL, i_cast, i_gste, i_ldcM, i_getC, i_acopy, i_dead, i_objinit, i_callV, i_callS, i_callI, i_iret, i_zret, i_aret, i_vret, i_throw, popN, pushO, lget, lset, isRf_ref, isRf_null, isRf_rf, isC1_int, isC1_ref, isC1_null, isC1_rf, true_and, and_true, List.length_cons, List.length_nil, Nat.reduceAdd, Nat.reduceLeDiff, hK_sI, hN_sI, hR_sI, hI_sI, hK_sR, hN_sR, hR_sR, hI_sR, kC_2, kC_3, kC_4, kC_5, kC_6, kC_7, kC_8, kC_9, kC_10, kC_11, kC_20, kC_21, kC_22, kC_23, i2_0, i1_1, i0_1, i1_0, bI_and, bI_0, Decidable.not_not, not_false_eq_true, not_true_eq_false, forall_const, false_implies, true_implies, hK_copy, hN_copy, hI_copy, hC_sI, hC_sR, hC_new, hK_new, hN_new, hI_new, hR_new, rf_some, rf_none, ex_ref, ex_null, ex_rf, nref_null, rf_null, Nat.reduceEqDiff, reduceCtorEq, false_and, and_false, if_false, if_true, ne_eq, kO_150, kO_151, kO_152, kO_170, kO_180, kO_190, Value.ref.injEq, exists_eq_left', false_or]
      intro o ho
      by_cases er : o = r
      · simp [er] at ho
      · simp only [er, if_false] at ho
        have hst := read_start k kl hr ho er
        generalize hread (hnew h r 7 0) r a o l = G at hst ⊢
        obtain ⟨s1, s2, s3, s4, s5, s6⟩ := hst
        have rd := read_done k hr ho s1 s2 s3 s4 s5
        rw [(k.ext s1).2.1]
        refine ⟨by rw [s1.K kA (by decide)]; rfl, (k.ext s1).1, G, [], 0, by rw [s5]; exact s6, s2, by decide, by decide, ?_⟩
        rw [s5]
        exact hp _ r rd.1 rd.2
    · exact hT.elim
  · unfold T_X5_of at hT
    split at hT
    · exact ⟨Nat.le_of_ble_eq_true rfl, by simp [isC1_int, isC1_ref, isC1_null, isC1_rf]⟩
    · exact hT.elim
