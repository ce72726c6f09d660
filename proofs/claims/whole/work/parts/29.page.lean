def blOK (h : hp_T) (q : Nat) : Prop := hK h q = 2 ∧ hR h 131 q 0 = some (dR h 131 q) ∧ hK h (dR h 131 q) = 3
def pnN (h : hp_T) (a : Nat) : Nat := lsz h (dR h 320 a)
def pn (h : hp_T) (a j : Nat) : Nat := lel h (dR h 320 a) j
def pb (h : hp_T) (a j : Nat) : Nat := dR h 384 (pn h a j)
def blN (h : hp_T) (a : Nat) : Nat := lsz h (dR h 321 a)
def bl (h : hp_T) (a j : Nat) : Nat := lel h (dR h 321 a) j
def bb (h : hp_T) (a j : Nat) : Nat := dR h 131 (bl h a j)
/-- a page that stands -/
def pgOK (h : hp_T) (a : Nat) : Prop := hK h a = 5 ∧ (hR h 320 a 0 = some (dR h 320 a) ∧ hK h (dR h 320 a) = 22 ∧ lOK h (dR h 320 a) ∧ pnN h a ≤ 8 ∧ ∀ j, j < pnN h a → pnOK h (pn h a j)) ∧
  (hR h 321 a 0 = some (dR h 321 a) ∧ hK h (dR h 321 a) = 23 ∧ lOK h (dR h 321 a) ∧ blN h a ≤ 20 ∧ ∀ j, j < blN h a → blOK h (bl h a j)) ∧ hI h 322 a 0 &&& 1 = hI h 322 a 0 ∧ (hR h 324 a 0 = none ∨ ∃ r, hR h 324 a 0 = some r ∧ hK h r = 152 ∧ hN h r = 11)
theorem Ext.dR {h h' : hp_T} (e : Ext h h') {f a : Nat} (ha : hK h a ≠ 0) : dR h' f a = dR h f a := by
  exact congrArg (fun o : Option Nat => o.getD 0) ((e.1 a ha).2.2 f 0).2
theorem lOK.live {h : hp_T} {a : Nat} (k : lOK h a) : hK h a ≠ 0 ∧ hK h (lda h a) ≠ 0 := by
  have h0 : hK h a ≠ 0 := fun e => absurd rfl (lOK.a0 k.1 a e)
  exact ⟨h0, fun e => k.d0 _ e rfl⟩
theorem lOK.ext {h h' : hp_T} (e : Ext h h') {a : Nat} (k : lOK h a) : lOK h' a ∧ lsz h' a = lsz h a ∧ lda h' a = lda h a ∧ ∀ i, lel h' a i = lel h a i := by
  obtain ⟨l1, l2⟩ := k.live
  obtain ⟨a1, a2, a3⟩ := e.1 a l1
  have ed : lda h' a = lda h a := by unfold lda; rw [a1, e.dR l1]
  have es : lsz h' a = lsz h a := by unfold lsz; rw [a1, (a3 _ _).1]
  obtain ⟨b1, b2, b3⟩ := e.1 (lda h a) l2
  have ee : ∀ i, lel h' a i = lel h a i := fun i => by unfold lel; rw [ed, a1, (b3 _ _).2]
  obtain ⟨k1, k2, k3, k4, k5, k6⟩ := k
  refine ⟨⟨by rw [a1]; exact k1, by rw [ed, a1, (a3 _ _).2]; exact k2, by rw [es, a1, (a3 _ _).1]; exact k3, by rw [es]; exact k4, ?_, fun i hi => ?_⟩, es, ed, ee⟩
  · rw [ed, es, a1, b1, b2, e.2]; exact k5
  · rw [ee, ed, a1, (b3 _ _).2]
    rw [es] at hi
    obtain ⟨z1, z2⟩ := k6 i hi
    refine ⟨z1, ?_⟩
    have : hK h (lel h a i) ≠ 0 := by rcases z2 with c | c | c | c <;> rw [c] <;> decide
    rw [(e.1 _ this).1]; exact z2
theorem pnOK.ext {h h' : hp_T} (e : Ext h h') {q : Nat} (k : pnOK h q) : pnOK h' q ∧ dR h' 384 q = dR h 384 q ∧ dR h' 385 q = dR h 385 q ∧ ∀ f, pnFO h' q f = pnFO h q f := by
  obtain ⟨⟨p1, p2, p3, p4⟩, ⟨p5, p6⟩, p7⟩ := k
  have l1 : hK h q ≠ 0 := by rw [p1]; decide
  obtain ⟨e1, e2, e3⟩ := e.1 q l1
  have ed5 := e.dR (f := 385) l1
  have ed4 := e.dR (f := 384) l1
  obtain ⟨g1, g2, g3⟩ := e.1 (dR h 385 q) (by rw [p3]; decide)
  have efo : ∀ f, pnFO h' q f = pnFO h q f := fun f => by unfold pnFO; rw [ed5, (g3 _ _).2]
  refine ⟨⟨⟨e1.trans p1, by rw [ed5, (e3 _ _).2]; exact p2, by rw [ed5]; exact g1.trans p3, by rw [ed5]; exact g2.trans p4⟩, ⟨by rw [ed4, (e3 _ _).2]; exact p5, by rw [ed4]; exact e.K p6 (by decide)⟩, fun f hf c hc => ?_⟩, ed4, ed5, efo⟩
  rw [efo] at hc; exact ((p7 f hf c hc).ext e).1
theorem blOK.ext {h h' : hp_T} (e : Ext h h') {q : Nat} (k : blOK h q) : blOK h' q ∧ dR h' 131 q = dR h 131 q := by
  obtain ⟨k1, k2, k3⟩ := k
  have l1 : hK h q ≠ 0 := by rw [k1]; decide
  have ed := e.dR (f := 131) l1
  exact ⟨⟨e.K k1 (by decide), by rw [ed, ((e.1 q l1).2.2 _ _).2]; exact k2, by rw [ed]; exact e.K k3 (by decide)⟩, ed⟩
/-- what stays of a page when cells come -/
def pgEq (h h' : hp_T) (a : Nat) : Prop := pnN h' a = pnN h a ∧ (∀ j, pn h' a j = pn h a j) ∧ blN h' a = blN h a ∧ (∀ j, bl h' a j = bl h a j) ∧ (∀ j, j < pnN h a → pb h' a j = pb h a j) ∧ (∀ j, j < blN h a → bb h' a j = bb h a j) ∧ (∀ g i, hI h' g a i = hI h g a i) ∧ (∀ g i, hR h' g a i = hR h g a i)
theorem pgOK.ext {h h' : hp_T} (e : Ext h h') {a : Nat} (k : pgOK h a) : pgOK h' a ∧ pgEq h h' a := by
  obtain ⟨k1, ⟨k2, k3, k4, k5, k6⟩, ⟨k7, k8, k9, k10, k11⟩, k12, k13⟩ := k
  have l1 : hK h a ≠ 0 := by rw [k1]; decide
  obtain ⟨e1, e2, e3⟩ := e.1 a l1
  have d0 := e.dR (f := 320) l1
  have d1 := e.dR (f := 321) l1
  obtain ⟨m1, m2, m3, m4⟩ := k4.ext e
  obtain ⟨n1, n2, n3, n4⟩ := k9.ext e
  have q1 : pnN h' a = pnN h a := by unfold pnN; rw [d0, m2]
  have q2 : ∀ j, pn h' a j = pn h a j := fun j => by unfold pn; rw [d0, m4]
  have q3 : blN h' a = blN h a := by unfold blN; rw [d1, n2]
  have q4 : ∀ j, bl h' a j = bl h a j := fun j => by unfold bl; rw [d1, n4]
  refine ⟨⟨e1.trans k1, ⟨by rw [d0, (e3 _ _).2]; exact k2, by rw [d0]; exact e.K k3 (by decide), by rw [d0]; exact m1, by rw [q1]; exact k5, fun j hj => by rw [q2]; exact ((k6 j (by rw [← q1]; exact hj)).ext e).1⟩,
    ⟨by rw [d1, (e3 _ _).2]; exact k7, by rw [d1]; exact e.K k8 (by decide), by rw [d1]; exact n1, by rw [q3]; exact k10, fun j hj => by rw [q4]; exact ((k11 j (by rw [← q3]; exact hj)).ext e).1⟩, by rw [(e3 _ _).1]; exact k12, ?_⟩,
    q1, q2, q3, q4, fun j hj => by unfold pb; rw [q2]; exact ((k6 j hj).ext e).2.1, fun j hj => by unfold bb; rw [q4]; exact ((k11 j hj).ext e).2, fun g i => (e3 g i).1, fun g i => (e3 g i).2⟩
  rw [(e3 _ _).2]
  rcases k13 with c | ⟨r, c1, c2, c3⟩
  · exact Or.inl c
  · exact Or.inr ⟨r, c1, e.K c2 (by decide), ((e.1 r (by rw [c2]; decide)).2.1).trans c3⟩
theorem shl1 {n : Nat} (h : n ≤ 8) : (1 : Int32) <<< (nI n &&& 31) - 1 = nI (2 ^ n - 1) := by
  have : ∀ n, n < 9 → (1 : Int32) <<< (nI n &&& 31) - 1 = nI (2 ^ n - 1) := by decide +kernel
  exact this n (by omega)
theorem ltI {a b : Nat} (ha : a < 1000) (hb : b < 1000) : (nI a < nI b) ↔ a < b := nI_ltI (by omega) (by omega)
theorem leI {a b : Nat} (ha : a < 1000) (hb : b < 1000) : (nI a ≤ nI b) ↔ a ≤ b := nI_leI (by omega) (by omega)
theorem eqI {a b : Nat} (ha : a < 1000) (hb : b < 1000) : (nI a = nI b) ↔ a = b := nI_eq (by omega) (by omega)
def wp_X3_allPanels_0 (P : Option Value → hp_T → Prop) (X : String → hp_T → Prop) : KT :=
  i_pushI 1 (i_aload 0 (i_getR 5 320 (i_callV 0 1 T_Jx4a65c_size_8abf5 noX (i_ishl (i_pushI 1 (i_isub (i_iret P)))))))
set_option maxRecDepth 20000 in
theorem go_X3_allPanels_0 {z : zT} {P : Option Value → hp_T → Prop} {X : String → hp_T → Prop} (hz : Cx z cX3_allPanels 1 "Panelry$Page" "allPanels" 1 0 0) (hr : Rt z (some .int) P X 0 0) : Go z 0 0 0 (wp_X3_allPanels_0 P X) := 
  s_iconst hz rfl dX3_allPanels_0 (s_aload_n hz rfl dX3_allPanels_1 (fg_RX3_12 hz dX3_allPanels_2 (s_callV hz ct_Jx4a65c_size_8abf5 ⟨w167, w115, w32, by decide, by decide, by decide +kernel⟩ w113 w114 cls0 rfl rfl rfl rfl rfl rfl out_no dX3_allPanels_5
    (s_ishl hz dX3_allPanels_8 (s_iconst hz rfl dX3_allPanels_9 (s_isub hz dX3_allPanels_10 (s_iret hz hr rfl rfl dX3_allPanels_11)))))))

def T_X3_allPanels : PT := fun av h P X => match av with
  | [.ref a] => (pgOK h a) ∧ (P (some (.int (nI (2 ^ pnN h a - 1)))) h)
  | _ => False
set_option maxRecDepth 20000 in
theorem ct_X3_allPanels : CT yX3_allPanels cX3_allPanels 1 (some .int) 1 0 0 T_X3_allPanels := by
  refine ct_ofE (by decide) (fun z av h P X hT hz hr => ?_) (fun av h P X hT => ?_)
  · unfold T_X3_allPanels at hT
    split at hT
    · refine ⟨_, go_X3_allPanels_0 hz hr, ?_⟩
      rename_i a
      show wp_X3_allPanels_0 P X [some (.ref a)] [] h
      obtain ⟨hk, hp⟩ := hT
      obtain ⟨k1, ⟨k2, k3, k4, k5, k6⟩, -⟩ := hk
      have e1 : lsz h (dR h 320 a) = pnN h a := rfl
      simp only [wp_X3_allPanels_0, T_Jx4a65c_size_8abf5, k1, k2, k3, k4, e1, i_mmax, i_mmin, i_pushI, i_pushN, i_pushL, i_iload, i_aload, i_istore, i_astore, i_iinc, i_iadd, i_isub, i_imul, i_iand, i_ior, i_ixor, i_ishl, i_ishr, i_iushr, i_idiv, i_i2l, i_lcmp, i_dup, i_pop, i_dupx1, i_dup2, i_ifeq, i_ifne, i_iflt, i_ifge, i_ifgt, i_ifle, i_iceq, i_icne, i_iclt, i_icge, i_icgt, i_icle, i_ifnull, i_aceq, i_getI, i_getR, i_putI, i_putZ, i_putR, i_new, i_newarr, i_ald, i_lald, i_aald, i_alen, i_ast, i_zast, i_last, i_aast, i_aastL, i_cast, i_gste, i_ldcM, i_getC, i_acopy, i_dead, i_objinit, i_callV, i_callS, i_callI, i_iret, i_zret, i_aret, i_vret, i_throw, popN, pushO, lget, lset, isRf_ref, isRf_null, isRf_rf, isC1_int, isC1_ref, isC1_null, isC1_rf, true_and, and_true, List.length_cons, List.length_nil, Nat.reduceAdd, Nat.reduceLeDiff, hK_sI, hN_sI, hR_sI, hI_sI, hK_sR, hN_sR, hR_sR, hI_sR, kC_2, kC_3, kC_4, kC_5, kC_6, kC_7, kC_8, kC_9, kC_10, kC_11, kC_20, kC_21, kC_22, kC_23, i2_0, i1_1, i0_1, i1_0, bI_and, bI_0, Decidable.not_not, not_false_eq_true, not_true_eq_false, forall_const, false_implies, true_implies, hK_copy, hN_copy, hI_copy, hC_sI, hC_sR, hC_new, hK_new, hN_new, hI_new, hR_new, rf_some, rf_none, ex_ref, ex_null, ex_rf, nref_null, rf_null, Nat.reduceEqDiff, reduceCtorEq, false_and, and_false, if_false, if_true, ne_eq, kO_150, kO_151, kO_152, kO_170, kO_180, kO_190, Value.ref.injEq, exists_eq_left', false_or]
      rw [shl1 k5]; exact hp
    · exact hT.elim
  · unfold T_X3_allPanels at hT
    split at hT
    · exact ⟨Nat.le_of_ble_eq_true rfl, by simp [isC1_int, isC1_ref, isC1_null, isC1_rf]⟩
    · exact hT.elim
def wp_X3_hasPanelOver_0 (P : Option Value → hp_T → Prop) (X : String → hp_T → Prop) (K2 : KT) : KT :=
  i_pushI 0 (i_istore 2 K2)
set_option maxRecDepth 20000 in
theorem go_X3_hasPanelOver_0 {z : zT} {P : Option Value → hp_T → Prop} {X : String → hp_T → Prop} {K2 : KT} (hz : Cx z cX3_hasPanelOver 3 "Panelry$Page" "hasPanelOver" 3 0 0) (hr : Rt z (some .boolean) P X 0 0) (h2 : Go z 0 0 2 K2) : Go z 0 0 0 (wp_X3_hasPanelOver_0 P X K2) := 
  s_iconst hz rfl dX3_hasPanelOver_0 (s_istore_n hz rfl rfl dX3_hasPanelOver_1 h2)
def wp_X3_hasPanelOver_2 (P : Option Value → hp_T → Prop) (X : String → hp_T → Prop) (K2 : KT) : KT :=
  i_iload 2 (i_aload 0 (i_getR 5 320 (i_callV 0 1 T_Jx4a65c_size_8abf5 noX (i_icge (i_pushI 0 (i_zret P)) (i_aload 0 (i_getR 5 320 (i_iload 2 (i_callV 1 1 T_Jx4a65c_get_915e3 noX (i_cast 6
    (i_getR 6 384 (i_aload 1 (i_callV 1 3 T_X1_overlaps noX (i_ifeq (i_iinc 2 1 K2) (i_pushI 1 (i_zret P)))))))))))))))
set_option maxRecDepth 20000 in
theorem go_X3_hasPanelOver_2 {z : zT} {P : Option Value → hp_T → Prop} {X : String → hp_T → Prop} {K2 : KT} (hz : Cx z cX3_hasPanelOver 3 "Panelry$Page" "hasPanelOver" 3 0 0) (hr : Rt z (some .boolean) P X 0 0) (h2 : Go z 0 0 2 K2) : Go z 0 0 2 (wp_X3_hasPanelOver_2 P X K2) := 
  s_iload_n hz rfl dX3_hasPanelOver_2 (s_aload_n hz rfl dX3_hasPanelOver_3 (fg_RX3_12 hz dX3_hasPanelOver_4 (s_callV hz ct_Jx4a65c_size_8abf5 ⟨w167, w115, w32, by decide, by decide, by decide +kernel⟩ w113 w114 cls0 rfl rfl rfl rfl rfl rfl out_no dX3_hasPanelOver_7
    (s_icge hz (tgt := 42) rfl dX3_hasPanelOver_10 (s_iconst hz rfl dX3_hasPanelOver_42 (s_zret hz hr rfl rfl dX3_hasPanelOver_43)) (s_aload_n hz rfl dX3_hasPanelOver_13 (fg_RX3_12 hz dX3_hasPanelOver_14
    (s_iload_n hz rfl dX3_hasPanelOver_17 (s_callV hz ct_Jx4a65c_get_915e3 ⟨w215, w119, w32, by decide, by decide, by decide +kernel⟩ w117 w118 cls0 rfl rfl rfl rfl rfl rfl out_no dX3_hasPanelOver_18
    (s_cast hz kO_6 rfl cls5 w216 dX3_hasPanelOver_21 (fg_RX3_35 hz dX3_hasPanelOver_24 (s_aload_n hz rfl dX3_hasPanelOver_27 (s_callV hz ct_X1_overlaps ⟨w492, w495, w47, by decide, by decide, by decide +kernel⟩ w493 w494 cls2 rfl rfl rfl rfl rfl rfl out_no dX3_hasPanelOver_28
    (s_ifeq hz (tgt := 36) rfl dX3_hasPanelOver_31 (s_iinc hz rfl rfl dX3_hasPanelOver_36 (s_goto hz (tgt := 2) rfl dX3_hasPanelOver_39 h2)) (s_iconst hz rfl dX3_hasPanelOver_34 (s_zret hz hr rfl rfl dX3_hasPanelOver_35)))))))))))))))

def T_X3_hasPanelOver : PT := fun av h P X => match av with
  | [.ref a, .ref b] => (pgOK h a ∧ hK h b = 3) ∧ (P (some (.int (bI (∃ i, i < pnN h a ∧ bOv h (pb h a i) b)))) h)
  | _ => False
set_option maxRecDepth 20000 in
theorem ct_X3_hasPanelOver : CT yX3_hasPanelOver cX3_hasPanelOver 3 (some .boolean) 3 0 0 T_X3_hasPanelOver := by
  refine ct_ofE (by decide) (fun z av h P X hT hz hr => ?_) (fun av h P X hT => ?_)
  · unfold T_X3_hasPanelOver at hT
    split at hT
    · rename_i a b
      obtain ⟨hk, hp⟩ := hT
      obtain ⟨k1, ⟨k2, k3, k4, k5, k6⟩, ⟨k7, k8, k9, k10, k11⟩, k12, k13⟩ := hk.1
      have eN : lsz h (dR h 320 a) = pnN h a := rfl
      have eB : lsz h (dR h 321 a) = blN h a := rfl
      have eP : ∀ j, lel h (dR h 320 a) j = pn h a j := fun _ => rfl
      have eL : ∀ j, lel h (dR h 321 a) j = bl h a j := fun _ => rfl
      have eQ : ∀ j, dR h 384 (pn h a j) = pb h a j := fun _ => rfl
      have eR : ∀ j, dR h 131 (bl h a j) = bb h a j := fun _ => rfl
      have hloop := Go.loop (z := z) (cells := 0) (slots := 0) (pc := 2) (fun n ls st h' => ∃ i, i + n = pnN h a ∧ ls = [some (.ref a), some (.ref b), some (.int (nI i))] ∧ st = [] ∧ h' = h ∧ ∀ j, j < i → ¬ bOv h (pb h a j) b) (fun k => wp_X3_hasPanelOver_2 P X k) (fun k hgo => go_X3_hasPanelOver_2 hz hr hgo) (by
        rintro n ls st h' ⟨i, hi, rfl, rfl, rfl, hno⟩
        have hcl : (nI i).toNatClampNeg = i := nI_clamp (by omega)
        have hge : (nI (pnN h' a) ≤ nI i) ↔ ¬ i < pnN h' a := by rw [leI (by omega) (by omega)]; omega
        simp only [wp_X3_hasPanelOver_0, wp_X3_hasPanelOver_2, T_Jx4a65c_size_8abf5, T_Jx4a65c_get_915e3, T_X1_overlaps, i_mmax, i_mmin, i_pushI, i_pushN, i_pushL, i_iload, i_aload, i_istore, i_astore, i_iinc, i_iadd, i_isub, i_imul, i_iand, i_ior, i_ixor, i_ishl, i_ishr, i_iushr, i_idiv, i_i2l, i_lcmp, i_dup, i_pop, i_dupx1, i_dup2, i_ifeq, i_ifne, i_iflt, i_ifge, i_ifgt, i_ifle, i_iceq, i_icne, i_iclt, i_icge, i_icgt, i_icle, i_ifnull, i_aceq, i_getI, i_getR, i_putI, i_putZ, i_putR, i_new, i_newarr, i_ald, i_lald, i_aald, i_alen, i_ast, i_zast, i_last, i_aast, i_aastL, i_cast, i_gste, i_ldcM, i_getC, i_acopy, i_dead, i_objinit, i_callV, i_callS, i_callI, i_iret, i_zret, i_aret, i_vret, i_throw, popN, pushO, lget, lset, isRf_ref, isRf_null, isRf_rf, isC1_int, isC1_ref, isC1_null, isC1_rf, true_and, and_true, List.length_cons, List.length_nil, Nat.reduceAdd, Nat.reduceLeDiff, hK_sI, hN_sI, hR_sI, hI_sI, hK_sR, hN_sR, hR_sR, hI_sR, kC_2, kC_3, kC_4, kC_5, kC_6, kC_7, kC_8, kC_9, kC_10, kC_11, kC_20, kC_21, kC_22, kC_23, i2_0, i1_1, i0_1, i1_0, bI_and, bI_0, Decidable.not_not, not_false_eq_true, not_true_eq_false, forall_const, false_implies, true_implies, hK_copy, hN_copy, hI_copy, hC_sI, hC_sR, hC_new, hK_new, hN_new, hI_new, hR_new, rf_some, rf_none, ex_ref, ex_null, ex_rf, nref_null, rf_null, Nat.reduceEqDiff, reduceCtorEq, false_and, and_false, if_false, if_true, ne_eq, kO_150, kO_151, kO_152, kO_170, kO_180, kO_190, Value.ref.injEq, exists_eq_left', false_or, k1, k2, k3, k4, k7, k8, k9, eN, eB, eP, eL, eQ, eR, hge, hcl, ltI (show i < 1000 by omega) (show pnN h' a < 1000 by omega), hk.2]
        refine ⟨fun e => ?_, fun e => ?_⟩
        · rw [bI_f (fun ⟨j, hj, z⟩ => hno j (by omega) z)] at hp
          exact hp
        · obtain ⟨q1, q2, q3⟩ := k6 i e
          have q0 := q1.1
          have q4 := q2.1
          have q5 := q2.2
          rw [eQ] at q4 q5
          simp only [wp_X3_hasPanelOver_0, wp_X3_hasPanelOver_2, T_Jx4a65c_size_8abf5, T_Jx4a65c_get_915e3, T_X1_overlaps, i_mmax, i_mmin, i_pushI, i_pushN, i_pushL, i_iload, i_aload, i_istore, i_astore, i_iinc, i_iadd, i_isub, i_imul, i_iand, i_ior, i_ixor, i_ishl, i_ishr, i_iushr, i_idiv, i_i2l, i_lcmp, i_dup, i_pop, i_dupx1, i_dup2, i_ifeq, i_ifne, i_iflt, i_ifge, i_ifgt, i_ifle, i_iceq, i_icne, i_iclt, i_icge, i_icgt, i_icle, i_ifnull, i_aceq, i_getI, i_getR, i_putI, i_putZ, i_putR, i_new, i_newarr, i_ald, i_lald, i_aald, i_alen, i_ast, i_zast, i_last, i_aast, i_aastL, i_cast, i_gste, i_ldcM, i_getC, i_acopy, i_dead, i_objinit, i_callV, i_callS, i_callI, i_iret, i_zret, i_aret, i_vret, i_throw, popN, pushO, lget, lset, isRf_ref, isRf_null, isRf_rf, isC1_int, isC1_ref, isC1_null, isC1_rf, true_and, and_true, List.length_cons, List.length_nil, Nat.reduceAdd, Nat.reduceLeDiff, hK_sI, hN_sI, hR_sI, hI_sI, hK_sR, hN_sR, hR_sR, hI_sR, kC_2, kC_3, kC_4, kC_5, kC_6, kC_7, kC_8, kC_9, kC_10, kC_11, kC_20, kC_21, kC_22, kC_23, i2_0, i1_1, i0_1, i1_0, bI_and, bI_0, Decidable.not_not, not_false_eq_true, not_true_eq_false, forall_const, false_implies, true_implies, hK_copy, hN_copy, hI_copy, hC_sI, hC_sR, hC_new, hK_new, hN_new, hI_new, hR_new, rf_some, rf_none, ex_ref, ex_null, ex_rf, nref_null, rf_null, Nat.reduceEqDiff, reduceCtorEq, false_and, and_false, if_false, if_true, ne_eq, kO_150, kO_151, kO_152, kO_170, kO_180, kO_190, Value.ref.injEq, exists_eq_left', false_or, q0, q4, q5, hk.2, e]
          refine ⟨nI_pos (by omega), fun e3 => ?_, fun e3 => ?_⟩
          · refine ⟨n - 1, by omega, i + 1, by omega, by rw [nI_1], fun j hj => ?_⟩
            by_cases e4 : j = i
            · subst e4; exact e3
            · exact hno j (by omega)
          · rw [bI_t ⟨i, e, e3⟩] at hp
            exact hp)
      refine ⟨_, go_X3_hasPanelOver_0 hz hr hloop, ?_⟩
      show wp_X3_hasPanelOver_0 P X _ [some (.ref a), some (.ref b), none] [] h
      simp only [wp_X3_hasPanelOver_0, wp_X3_hasPanelOver_2, T_Jx4a65c_size_8abf5, T_Jx4a65c_get_915e3, T_X1_overlaps, i_mmax, i_mmin, i_pushI, i_pushN, i_pushL, i_iload, i_aload, i_istore, i_astore, i_iinc, i_iadd, i_isub, i_imul, i_iand, i_ior, i_ixor, i_ishl, i_ishr, i_iushr, i_idiv, i_i2l, i_lcmp, i_dup, i_pop, i_dupx1, i_dup2, i_ifeq, i_ifne, i_iflt, i_ifge, i_ifgt, i_ifle, i_iceq, i_icne, i_iclt, i_icge, i_icgt, i_icle, i_ifnull, i_aceq, i_getI, i_getR, i_putI, i_putZ, i_putR, i_new, i_newarr, i_ald, i_lald, i_aald, i_alen, i_ast, i_zast, i_last, i_aast, i_aastL, i_cast, i_gste, i_ldcM, i_getC, i_acopy, i_dead, i_objinit, i_callV, i_callS, i_callI, i_iret, i_zret, i_aret, i_vret, i_throw, popN, pushO, lget, lset, isRf_ref, isRf_null, isRf_rf, isC1_int, isC1_ref, isC1_null, isC1_rf, true_and, and_true, List.length_cons, List.length_nil, Nat.reduceAdd, Nat.reduceLeDiff, hK_sI, hN_sI, hR_sI, hI_sI, hK_sR, hN_sR, hR_sR, hI_sR, kC_2, kC_3, kC_4, kC_5, kC_6, kC_7, kC_8, kC_9, kC_10, kC_11, kC_20, kC_21, kC_22, kC_23, i2_0, i1_1, i0_1, i1_0, bI_and, bI_0, Decidable.not_not, not_false_eq_true, not_true_eq_false, forall_const, false_implies, true_implies, hK_copy, hN_copy, hI_copy, hC_sI, hC_sR, hC_new, hK_new, hN_new, hI_new, hR_new, rf_some, rf_none, ex_ref, ex_null, ex_rf, nref_null, rf_null, Nat.reduceEqDiff, reduceCtorEq, false_and, and_false, if_false, if_true, ne_eq, kO_150, kO_151, kO_152, kO_170, kO_180, kO_190, Value.ref.injEq, exists_eq_left', false_or]
      exact ⟨pnN h a, 0, by omega, rfl, fun j hj => absurd hj (Nat.not_lt_zero j)⟩
    · exact hT.elim
  · unfold T_X3_hasPanelOver at hT
    split at hT
    · exact ⟨Nat.le_of_ble_eq_true rfl, by simp [isC1_int, isC1_ref, isC1_null, isC1_rf]⟩
    · exact hT.elim
