/-- a new page, empty -/
def pgNew (h h' : hp_T) (q : Nat) (l : Int32) : Prop := (hK h q = 0 ∧ hK h' q = 5 ∧ hI h' 322 q 0 = l ∧ hI h' 323 q 0 = 0 ∧ hR h' 324 q 0 = none) ∧ (hR h' 320 q 0 = some (dR h' 320 q) ∧ hK h' (dR h' 320 q) = 22 ∧ nlist h h' (dR h' 320 q) 0) ∧ hR h' 321 q 0 = some (dR h' 321 q) ∧ hK h' (dR h' 321 q) = 23 ∧ nlist h h' (dR h' 321 q) 0
theorem page_newl {h : hp_T} {q q1 q2 : Nat} {l : Int32} (h0 : hK h (hC h 0) = 190 ∧ hN h (hC h 0) = 0) (hq : hK h q = 0) (f1 : hK (hnew h q 5 0) q1 = 0) (f2 : hK (hnew h q 5 0) q2 = 0) (ne : ¬ q2 = q1) :
    Ext h (hpage (hnew h q 5 0) q q1 q2 (l)) ∧ pgNew h (hpage (hnew h q 5 0) q q1 q2 (l)) q l := by
  obtain ⟨h1, h2⟩ := h0
  have cq : ¬ hC h 0 = q := fun e => by rw [e, hq] at h1; cases h1
  have n1 : ¬ q1 = q := fun e => by rw [e, hK_new, if_pos rfl] at f1; cases f1
  have n2 : ¬ q2 = q := fun e => by rw [e, hK_new, if_pos rfl] at f2; cases f2
  have i22 : isL 22 := by simp [isL]
  have i23 : isL 23 := by simp [isL]
  unfold hpage
  have x0 : Ext h (hnew h q 5 0) := Ext.rfl.new hq 5 0
  have g1 := x0.fresh f1
  have g2 := x0.fresh f2
  obtain ⟨e1, kq1, ok1, s1, d1⟩ := hlist_at (h := hnew h q 5 0) (q := q1) i22 ⟨by rw [hC_new, hK_new, if_neg cq]; exact h1, by rw [hC_new, hN_new, if_neg cq]; exact h2⟩ f1
  have q5 : hK (hlist (hnew h q 5 0) q1 22) q = 5 := e1.K (by rw [hK_new, if_pos rfl]) (by decide)
  have x1 := x0.trans e1
  have f2' : hK (hlist (hnew h q 5 0) q1 22) q2 = 0 := by unfold hlist; simp only [hK_sI, hN_sI, hI_sI, hR_sI, hC_sI, hK_sR, hN_sR, hI_sR, hR_sR, hC_sR, hK_new, hN_new, hI_new, hR_new, hC_new, ne, n2, if_false]; exact g2
  have z1 : ∀ g i, hI (hlist (hnew h q 5 0) q1 22) g q i = 0 ∧ hR (hlist (hnew h q 5 0) q1 22) g q i = none := fun g i => by
    have := (e1.1 q (by rw [hK_new, if_pos rfl]; decide)).2.2 g i
    rw [this.1, this.2, hI_new, hR_new, if_pos rfl, if_pos rfl]
    exact ⟨rfl, rfl⟩
  generalize hlist (hnew h q 5 0) q1 22 = H1 at *
  have x2 : Ext h (hsR H1 320 q 0 (some q1)) := x1.sR hq _ _ _
  have c1 : hK (hsR H1 320 q 0 (some q1)) (hC (hsR H1 320 q 0 (some q1)) 0) = 190 ∧ hN (hsR H1 320 q 0 (some q1)) (hC (hsR H1 320 q 0 (some q1)) 0) = 0 := by
    rw [x2.2]
    obtain ⟨y1, y2, -⟩ := x2.1 (hC h 0) (by rw [h1]; decide)
    exact ⟨y1.trans h1, y2.trans h2⟩
  obtain ⟨e2, kq2, ok2, s2, d2⟩ := hlist_at (h := hsR H1 320 q 0 (some q1)) (q := q2) i23 c1 f2'
  have x3 := x2.trans e2
  have t1 : sameAt H1 (hlist (hsR H1 320 q 0 (some q1)) q2 23) q1 := (sameAt.sR n1).trans (e2.1 q1 (by show hK H1 q1 ≠ 0; rw [kq1]; decide))
  have tc : sameAt H1 (hlist (hsR H1 320 q 0 (some q1)) q2 23) (hC h 0) := (sameAt.sR cq).trans (e2.1 (hC h 0) (by show hK H1 (hC h 0) ≠ 0; rw [x1.K h1 (by decide)]; decide))
  have q5' : hK (hlist (hsR H1 320 q 0 (some q1)) q2 23) q = 5 := e2.K (b := q) q5 (by decide)
  have r5 : hR (hlist (hsR H1 320 q 0 (some q1)) q2 23) 320 q 0 = some q1 := by
    rw [((e2.1 q (by show hK H1 q ≠ 0; rw [q5]; decide)).2.2 _ _).2, hR_sR, if_pos ⟨rfl, rfl, rfl⟩]
  have z2 : hI (hlist (hsR H1 320 q 0 (some q1)) q2 23) 323 q 0 = 0 ∧ hR (hlist (hsR H1 320 q 0 (some q1)) q2 23) 324 q 0 = none := by
    have := (e2.1 q (by show hK H1 q ≠ 0; rw [q5]; decide)).2.2
    rw [(this _ _).1, (this _ _).2]
    simp only [hK_sI, hN_sI, hI_sI, hR_sI, hC_sI, hK_sR, hN_sR, hI_sR, hR_sR, hC_sR, hK_new, hN_new, hI_new, hR_new, hC_new, Nat.reduceEqDiff, false_and, if_false]
    exact ⟨(z1 _ _).1, (z1 _ _).2⟩
  have k3 : ∀ b, hK H1 b ≠ 0 → hK (hlist (hsR H1 320 q 0 (some q1)) q2 23) b = hK H1 b := fun b hb => (e2.1 b hb).1
  have c3 : ∀ i, hC (hlist (hsR H1 320 q 0 (some q1)) q2 23) i = hC H1 i := e2.2
  have x1C := x1.2 0
  generalize hlist (hsR H1 320 q 0 (some q1)) q2 23 = H3 at *
  have dC : lda H1 q1 = hC h 0 := d1
  have dC2 : lda H3 q2 = hC h 0 := d2.trans x1C
  have w1 := ok1.same (h' := hsI (hsR H3 321 q 0 (some q2)) 322 q 0 (l)) (t1.trans ((sameAt.sR n1).trans (sameAt.sI n1))) (by rw [dC]; exact tc.trans ((sameAt.sR cq).trans (sameAt.sI cq))) k3 c3
  have w2 := ok2.same (h' := hsI (hsR H3 321 q 0 (some q2)) 322 q 0 (l)) ((sameAt.sR n2).trans (sameAt.sI n2)) (by rw [dC2]; exact ((sameAt.sR cq).trans (sameAt.sI cq))) (fun _ _ => rfl) (fun _ => rfl)
  have D1 : dR (hsI (hsR H3 321 q 0 (some q2)) 322 q 0 (l)) 320 q = q1 := by
    apply dR_of
    simp only [hK_sI, hN_sI, hI_sI, hR_sI, hC_sI, hK_sR, hN_sR, hI_sR, hR_sR, hC_sR, hK_new, hN_new, hI_new, hR_new, hC_new, Nat.reduceEqDiff, false_and, if_false]; exact r5
  have D2 : dR (hsI (hsR H3 321 q 0 (some q2)) 322 q 0 (l)) 321 q = q2 := by
    apply dR_of
    simp only [hK_sI, hN_sI, hI_sI, hR_sI, hC_sI, hK_sR, hN_sR, hI_sR, hR_sR, hC_sR, hK_new, hN_new, hI_new, hR_new, hC_new, and_self, if_true]
  have k190 : hK (hsI (hsR H3 321 q 0 (some q2)) 322 q 0 (l)) (hC h 0) = 190 := x3.K h1 (by decide)
  refine ⟨(x3.sR hq _ _ _).sI hq _ _ _, ⟨hq, q5', by simp only [hK_sI, hN_sI, hI_sI, hR_sI, hC_sI, hK_sR, hN_sR, hI_sR, hR_sR, hC_sR, hK_new, hN_new, hI_new, hR_new, hC_new, and_self, if_true], by simp only [hK_sI, hN_sI, hI_sI, hR_sI, hC_sI, hK_sR, hN_sR, hI_sR, hR_sR, hC_sR, hK_new, hN_new, hI_new, hR_new, hC_new, Nat.reduceEqDiff, false_and, if_false]; exact z2.1, by simp only [hK_sI, hN_sI, hI_sI, hR_sI, hC_sI, hK_sR, hN_sR, hI_sR, hR_sR, hC_sR, hK_new, hN_new, hI_new, hR_new, hC_new, Nat.reduceEqDiff, false_and, if_false]; exact z2.2⟩,
    ⟨by rw [D1]; simp only [hK_sI, hN_sI, hI_sI, hR_sI, hC_sI, hK_sR, hN_sR, hI_sR, hR_sR, hC_sR, hK_new, hN_new, hI_new, hR_new, hC_new, Nat.reduceEqDiff, false_and, if_false]; exact r5, by rw [D1]; exact (k3 q1 (by rw [kq1]; decide)).trans kq1, by rw [D1]; exact ⟨g1, w1.1, w1.2.1.trans s1, Or.inl (by rw [w1.2.2.1, dC]; exact k190)⟩⟩,
    ⟨by rw [D2]; simp only [hK_sI, hN_sI, hI_sI, hR_sI, hC_sI, hK_sR, hN_sR, hI_sR, hR_sR, hC_sR, hK_new, hN_new, hI_new, hR_new, hC_new, and_self, if_true], by rw [D2]; exact kq2, by rw [D2]; exact ⟨g2, w2.1, w2.2.1.trans s2, Or.inl (by rw [w2.2.2.1, dC2]; exact k190)⟩⟩⟩
def wp_X8_addPage_0 (P : Option Value → hp_T → Prop) (X : String → hp_T → Prop) : KT :=
  i_aload 0 (i_getR 10 640 (i_aload 1 (i_callV 1 1 T_Jx4a65c_add_9ea2d noX (i_pop (i_aload 0 (i_getR 10 640 (i_callV 0 1 T_Jx4a65c_size_8abf5 noX (i_pushI 1 (i_isub (i_iret P))))))))))
theorem wx_X8_addPage_0 (P : Option Value → hp_T → Prop) (X : String → hp_T → Prop) (ls : List (Option Value)) (st : List Value) (h : hp_T) : wp_X8_addPage_0 P X ls st h = (i_aload 0 (i_getR 10 640 (i_aload 1 (i_callV 1 1 T_Jx4a65c_add_9ea2d noX (i_pop (i_aload 0 (i_getR 10 640 (i_callV 0 1 T_Jx4a65c_size_8abf5 noX (i_pushI 1 (i_isub (i_iret P))))))))))) ls st h := rfl
set_option maxRecDepth 20000 in
theorem go_X8_addPage_0 {z : zT} {P : Option Value → hp_T → Prop} {X : String → hp_T → Prop} (hz : Cx z cX8_addPage 2 "Panelry" "addPage" 8 1 100) (hr : Rt z (some .int) P X 1 100) : Go z 0 0 0 (wp_X8_addPage_0 P X) := 
  s_aload_n hz rfl dX8_addPage_0 (fg_RX8_12 hz dX8_addPage_1 (s_aload_n hz rfl dX8_addPage_4 (s_callV hz ct_Jx4a65c_add_9ea2d ⟨w336, w339, w32, by decide, by decide, by decide +kernel⟩ w337 w338 cls0 rfl rfl rfl rfl rfl rfl out_no dX8_addPage_5
    (s_pop hz dX8_addPage_8 (s_aload_n hz rfl dX8_addPage_9 (fg_RX8_12 hz dX8_addPage_10 (s_callV hz ct_Jx4a65c_size_8abf5 ⟨w112, w115, w32, by decide, by decide, by decide +kernel⟩ w113 w114 cls0 rfl rfl rfl rfl rfl rfl out_no dX8_addPage_13
    (s_iconst hz rfl dX8_addPage_16 (s_isub hz dX8_addPage_17 (s_iret hz hr rfl rfl dX8_addPage_18))))))))))

def T_X8_addPage : PT := fun av h P X => match av with
  | [.ref c, .ref a] => ((hK h c = 10 ∧ hR h 640 c 0 = some (dR h 640 c) ∧ hK h (dR h 640 c) = 20) ∧ lOK h (dR h 640 c) ∧ lsz h (dR h 640 c) < 40 ∧ hK h a = 5) ∧ (∀ h', LAdd h h' (dR h 640 c) a → P (some (.int (nI (lsz h (dR h 640 c))))) h')
  | _ => False
theorem tx_X8_addPage (c : Nat) (a : Nat) (h : hp_T) (P : Option Value → hp_T → Prop) (X : String → hp_T → Prop) : T_X8_addPage [.ref c, .ref a] h P X = (((hK h c = 10 ∧ hR h 640 c 0 = some (dR h 640 c) ∧ hK h (dR h 640 c) = 20) ∧ lOK h (dR h 640 c) ∧ lsz h (dR h 640 c) < 40 ∧ hK h a = 5) ∧ (∀ h', LAdd h h' (dR h 640 c) a → P (some (.int (nI (lsz h (dR h 640 c))))) h')) := rfl
set_option maxRecDepth 20000 in
theorem ct_X8_addPage : CT yX8_addPage cX8_addPage 2 (some .int) 8 1 100 T_X8_addPage := by
  refine ct_ofE (by decide) (fun z av h P X hT hz hr => ?_) (fun av h P X hT => ?_)
  · unfold T_X8_addPage at hT
    split at hT
    · rename_i c a
      obtain ⟨hk, hp⟩ := hT
      obtain ⟨⟨k1, k2, k3⟩, k4, k5, k6⟩ := hk
      refine ⟨_, go_X8_addPage_0 hz hr, ?_⟩
      show wp_X8_addPage_0 P X [some (.ref c), some (.ref a)] [] h
      simp (disch := omega) only [wx_X8_addPage_0, tx_Jx4a65c_add_9ea2d, tx_Jx4a65c_size_8abf5, aq_pushI, aq_pushN, aq_pushL, aq_iload0, ap_aload0r, ap_aload0n, ap_aload0o, aq_istore0, ap_astore0r, ap_astore0n, ap_astore0o, aq_iinc0, aq_iload1, ap_aload1r, ap_aload1n, ap_aload1o, aq_istore1, ap_astore1r, ap_astore1n, ap_astore1o, aq_iinc1, aq_iload2, ap_aload2r, ap_aload2n, ap_aload2o, aq_istore2, ap_astore2r, ap_astore2n, ap_astore2o, aq_iinc2, aq_iload3, ap_aload3r, ap_aload3n, ap_aload3o, aq_istore3, ap_astore3r, ap_astore3n, ap_astore3o, aq_iinc3, aq_iload4, ap_aload4r, ap_aload4n, ap_aload4o, aq_istore4, ap_astore4r, ap_astore4n, ap_astore4o, aq_iinc4, aq_iload5, ap_aload5r, ap_aload5n, ap_aload5o, aq_istore5, ap_astore5r, ap_astore5n, ap_astore5o, aq_iinc5, aq_iload6, ap_aload6r, ap_aload6n, ap_aload6o, aq_istore6, ap_astore6r, ap_astore6n, ap_astore6o, aq_iinc6, aq_iload7, ap_aload7r, ap_aload7n, ap_aload7o, aq_istore7, ap_astore7r, ap_astore7n, ap_astore7o, aq_iinc7, aq_iload8, ap_aload8r, ap_aload8n, ap_aload8o, aq_istore8, ap_astore8r, ap_astore8n, ap_astore8o, aq_iinc8, aq_iload9, ap_aload9r, ap_aload9n, ap_aload9o, aq_istore9, ap_astore9r, ap_astore9n, ap_astore9o, aq_iinc9, aq_iload10, ap_aload10r, ap_aload10n, ap_aload10o, aq_istore10, ap_astore10r, ap_astore10n, ap_astore10o, aq_iinc10, aq_iload11, ap_aload11r, ap_aload11n, ap_aload11o, aq_istore11, ap_astore11r, ap_astore11n, ap_astore11o, aq_iinc11, aq_iload12, ap_aload12r, ap_aload12n, ap_aload12o, aq_istore12, ap_astore12r, ap_astore12n, ap_astore12o, aq_iinc12, aq_iload13, ap_aload13r, ap_aload13n, ap_aload13o, aq_istore13, ap_astore13r, ap_astore13n, ap_astore13o, aq_iinc13, aq_iload14, ap_aload14r, ap_aload14n, ap_aload14o, aq_istore14, ap_astore14r, ap_astore14n, ap_astore14o, aq_iinc14, aq_iload15, ap_aload15r, ap_aload15n, ap_aload15o, aq_istore15, ap_astore15r, ap_astore15n, ap_astore15o, aq_iinc15, aq_iadd, aq_isub, aq_imul, aq_iand, aq_ior, aq_ixor, aq_ishl, aq_ishr, aq_iushr, aq_idiv, aq_i2l, aq_lcmp, aq_dup, aq_pop, aq_dupx1, aq_dup2, ap_ifeq, ap_ifne, ap_iflt, ap_ifge, ap_ifgt, ap_ifle, ap_iceq, ap_icne, ap_iclt, ap_icge, ap_icgt, ap_icle, ap_ifnullr, ap_ifnulln, ap_ifnullo, aq_getI, aq_getR, aq_putI, aq_putZ, ap_putRr, ap_putRn, ap_putRo, aq_new, aq_newarr, aq_ald, aq_lald, aq_aald, aq_alen, aq_ast, aq_zast, ap_last, aq_aast, ap_castr, aq_gste, aq_objinit, aq_mmax, aq_mmin, aq_dead, aq_iret, aq_zret, aq_aret, aq_vret, aq_throw, aq_callV0, aq_callI0, aq_callS0, aq_callV1, aq_callI1, aq_callS1, aq_callV2, aq_callI2, aq_callS2, aq_callV3, aq_callI3, aq_callS3, aq_callV4, aq_callI4, aq_callS4, aq_callV5, aq_callI5, aq_callS5, aq_callV6, aq_callI6, aq_callS6, aq_callV7, aq_callI7, aq_callS7, aq_callV8, aq_callI8, aq_callS8, aq_callV9, aq_callI9, aq_callS9, pushO, isRf_ref, isRf_null, isRf_rf, isC1_int, isC1_ref, isC1_null, isC1_rf, true_and, and_true, List.length_cons, List.length_nil, Nat.reduceAdd, Nat.reduceLeDiff, hK_sI, hN_sI, hR_sI, hI_sI, hK_sR, hN_sR, hR_sR, hI_sR, kC_2, kC_3, kC_4, kC_5, kC_6, kC_7, kC_8, kC_9, kC_10, kC_11, kC_20, kC_21, kC_22, kC_23, i2_0, i1_1, i0_1, i1_0, bI_and, bI_0, Decidable.not_not, not_false_eq_true, not_true_eq_false, forall_const, false_implies, true_implies, hK_copy, hN_copy, hI_copy, hC_sI, hC_sR, hC_new, hK_new, hN_new, hI_new, hR_new, rf_some, rf_none, ex_ref, ex_null, ex_rf, nref_null, rf_null, Nat.reduceEqDiff, reduceCtorEq, false_and, and_false, if_false, if_true, ne_eq, kO_150, kO_151, kO_152, kO_170, kO_180, kO_190, Value.ref.injEq, exists_eq_left', false_or, ↓reduceIte, and_self, not_true_eq_false, k1, k2, k3]
      refine ⟨⟨k4, k5, objK_5 k6⟩, fun h2 z => ?_⟩
      have s := z.frame (b := c) (by rw [k1]; decide) (fun e => by rw [e, k3] at k1; cases k1) (by rw [k1, k3]; decide)
      have d0 := s.dR 640
      obtain ⟨s1, s2, s3⟩ := s
      obtain ⟨m1, m2, m3, m4, m5⟩ := z.ok k4 k5 (objK_5 k6)
      have r2 : hR h2 640 c 0 = some (dR h 640 c) := by rw [(s3 _ _).2]; exact k2
      have kc2 := s1.trans k1
      have kl2 := m5.trans k3
      have e1 : nI (lsz h (dR h 640 c) + 1) - 1 = nI (lsz h (dR h 640 c)) := by rw [← nI_1, Int32.add_sub_cancel]
      simp (disch := omega) only [tx_Jx4a65c_add_9ea2d, tx_Jx4a65c_size_8abf5, aq_pushI, aq_pushN, aq_pushL, aq_iload0, ap_aload0r, ap_aload0n, ap_aload0o, aq_istore0, ap_astore0r, ap_astore0n, ap_astore0o, aq_iinc0, aq_iload1, ap_aload1r, ap_aload1n, ap_aload1o, aq_istore1, ap_astore1r, ap_astore1n, ap_astore1o, aq_iinc1, aq_iload2, ap_aload2r, ap_aload2n, ap_aload2o, aq_istore2, ap_astore2r, ap_astore2n, ap_astore2o, aq_iinc2, aq_iload3, ap_aload3r, ap_aload3n, ap_aload3o, aq_istore3, ap_astore3r, ap_astore3n, ap_astore3o, aq_iinc3, aq_iload4, ap_aload4r, ap_aload4n, ap_aload4o, aq_istore4, ap_astore4r, ap_astore4n, ap_astore4o, aq_iinc4, aq_iload5, ap_aload5r, ap_aload5n, ap_aload5o, aq_istore5, ap_astore5r, ap_astore5n, ap_astore5o, aq_iinc5, aq_iload6, ap_aload6r, ap_aload6n, ap_aload6o, aq_istore6, ap_astore6r, ap_astore6n, ap_astore6o, aq_iinc6, aq_iload7, ap_aload7r, ap_aload7n, ap_aload7o, aq_istore7, ap_astore7r, ap_astore7n, ap_astore7o, aq_iinc7, aq_iload8, ap_aload8r, ap_aload8n, ap_aload8o, aq_istore8, ap_astore8r, ap_astore8n, ap_astore8o, aq_iinc8, aq_iload9, ap_aload9r, ap_aload9n, ap_aload9o, aq_istore9, ap_astore9r, ap_astore9n, ap_astore9o, aq_iinc9, aq_iload10, ap_aload10r, ap_aload10n, ap_aload10o, aq_istore10, ap_astore10r, ap_astore10n, ap_astore10o, aq_iinc10, aq_iload11, ap_aload11r, ap_aload11n, ap_aload11o, aq_istore11, ap_astore11r, ap_astore11n, ap_astore11o, aq_iinc11, aq_iload12, ap_aload12r, ap_aload12n, ap_aload12o, aq_istore12, ap_astore12r, ap_astore12n, ap_astore12o, aq_iinc12, aq_iload13, ap_aload13r, ap_aload13n, ap_aload13o, aq_istore13, ap_astore13r, ap_astore13n, ap_astore13o, aq_iinc13, aq_iload14, ap_aload14r, ap_aload14n, ap_aload14o, aq_istore14, ap_astore14r, ap_astore14n, ap_astore14o, aq_iinc14, aq_iload15, ap_aload15r, ap_aload15n, ap_aload15o, aq_istore15, ap_astore15r, ap_astore15n, ap_astore15o, aq_iinc15, aq_iadd, aq_isub, aq_imul, aq_iand, aq_ior, aq_ixor, aq_ishl, aq_ishr, aq_iushr, aq_idiv, aq_i2l, aq_lcmp, aq_dup, aq_pop, aq_dupx1, aq_dup2, ap_ifeq, ap_ifne, ap_iflt, ap_ifge, ap_ifgt, ap_ifle, ap_iceq, ap_icne, ap_iclt, ap_icge, ap_icgt, ap_icle, ap_ifnullr, ap_ifnulln, ap_ifnullo, aq_getI, aq_getR, aq_putI, aq_putZ, ap_putRr, ap_putRn, ap_putRo, aq_new, aq_newarr, aq_ald, aq_lald, aq_aald, aq_alen, aq_ast, aq_zast, ap_last, aq_aast, ap_castr, aq_gste, aq_objinit, aq_mmax, aq_mmin, aq_dead, aq_iret, aq_zret, aq_aret, aq_vret, aq_throw, aq_callV0, aq_callI0, aq_callS0, aq_callV1, aq_callI1, aq_callS1, aq_callV2, aq_callI2, aq_callS2, aq_callV3, aq_callI3, aq_callS3, aq_callV4, aq_callI4, aq_callS4, aq_callV5, aq_callI5, aq_callS5, aq_callV6, aq_callI6, aq_callS6, aq_callV7, aq_callI7, aq_callS7, aq_callV8, aq_callI8, aq_callS8, aq_callV9, aq_callI9, aq_callS9, pushO, isRf_ref, isRf_null, isRf_rf, isC1_int, isC1_ref, isC1_null, isC1_rf, true_and, and_true, List.length_cons, List.length_nil, Nat.reduceAdd, Nat.reduceLeDiff, hK_sI, hN_sI, hR_sI, hI_sI, hK_sR, hN_sR, hR_sR, hI_sR, kC_2, kC_3, kC_4, kC_5, kC_6, kC_7, kC_8, kC_9, kC_10, kC_11, kC_20, kC_21, kC_22, kC_23, i2_0, i1_1, i0_1, i1_0, bI_and, bI_0, Decidable.not_not, not_false_eq_true, not_true_eq_false, forall_const, false_implies, true_implies, hK_copy, hN_copy, hI_copy, hC_sI, hC_sR, hC_new, hK_new, hN_new, hI_new, hR_new, rf_some, rf_none, ex_ref, ex_null, ex_rf, nref_null, rf_null, Nat.reduceEqDiff, reduceCtorEq, false_and, and_false, if_false, if_true, ne_eq, kO_150, kO_151, kO_152, kO_170, kO_180, kO_190, Value.ref.injEq, exists_eq_left', false_or, ↓reduceIte, and_self, not_true_eq_false, r2, kc2, kl2, m1, m2, e1]
      exact hp h2 z
    · exact hT.elim
  · unfold T_X8_addPage at hT
    split at hT
    · exact ⟨Nat.le_of_ble_eq_true rfl, by simp [isC1_int, isC1_ref, isC1_null, isC1_rf]⟩
    · exact hT.elim
theorem wf_top {σ : sg_T} (hW : WF σ) (h : sN σ < 8) : pN σ (sN σ) = 0 ∧ bN σ (sN σ) = 0 ∧ σ 4 (sN σ) = 0 ∧ σ 7 (sN σ) = 0 := (hW.2.1 _ h).2.2.2.2.1 (Nat.le_refl _)
def pgS (σ : sg_T) (l : Int32) : sg_T := su (su (su σ 1 (sN σ) l) 5 (sN σ) (-1)) 0 0 (nI (sN σ + 1))
theorem MFr.add {h h' : hp_T} {L a : Nat} (z : LAdd h h' L a) (il : isL (hK h L)) : MFr h h' := fun b hb => by
  have b0 : hK h b ≠ 0 := fun e => by rw [e] at hb; cases hb
  refine z.frame b0 (fun e => ?_) (fun e => ?_)
  · rw [e] at hb; rcases il with i | i | i | i <;> rw [i] at hb <;> cases hb
  · rw [e] at hb; rcases il with i | i | i | i <;> rw [i] at hb <;> cases hb
theorem RC.list {h : hp_T} {c : Nat} {σ : sg_T} (x : RC h c σ) : (hK h c = 10 ∧ hR h 640 c 0 = some (dR h 640 c) ∧ hK h (dR h 640 c) = 20) ∧ lOK h (dR h 640 c) ∧ lsz h (dR h 640 c) = sN σ ∧ sN σ ≤ 8 := ⟨⟨x.1.1, x.2.2.1.1, x.2.2.1.2.1.1⟩, x.2.2.1.2.1.2⟩
/-- the list of pages, when cells came -/
theorem RC.list_ext {h h1 : hp_T} {c : Nat} {σ : sg_T} (x : RC h c σ) (E : Ext h h1) : dR h1 640 c = dR h 640 c ∧ (hK h1 c = 10 ∧ hR h1 640 c 0 = some (dR h1 640 c) ∧ hK h1 (dR h1 640 c) = 20) ∧ lOK h1 (dR h1 640 c) ∧ lsz h1 (dR h1 640 c) = sN σ := by
  have y := (x.cl (Cl.of_ext E)).list
  have s : sameAt h h1 c := E.1 c (by rw [x.1.1]; decide)
  exact ⟨s.dR 640, y.1, y.2.1, y.2.2.1⟩
theorem page_RC {h h1 h' : hp_T} {c q : Nat} {σ : sg_T} {l : Int32} (x : RC h c σ) (hW : WF σ) (n8 : sN σ < 8) (E : Ext h h1) (N : pgNew h h1 q l) (z : LAdd h1 h' (dR h 640 c) q) : RC h' c (pgS σ l) := by
  obtain ⟨t1, t2, t3, t4⟩ := wf_top hW n8
  obtain ⟨⟨n1, n2, n3, n4, n5⟩, ⟨n6, n7, n9, n10, n11, n12⟩, n13, n14, n15, n16, n17, n18⟩ := N
  have u : ∀ k i, ¬ (k = 0 ∧ i = 0) → ¬ (k = 5 ∧ i = sN σ) → ¬ (k = 1 ∧ i = sN σ) → pgS σ l k i = σ k i := fun k i a b d => by
    unfold pgS
    rw [su_at, if_neg a, su_at, if_neg b, su_at, if_neg d]
  have e0 : sN (pgS σ l) = sN σ + 1 := by
    unfold sN pgS
    rw [su_at, if_pos ⟨rfl, rfl⟩]
    exact cl_nI (by have : (σ 0 0).toNatClampNeg < 8 := n8; omega)
  have eP : pN (pgS σ l) (sN σ) = 0 := by unfold pN; rw [u _ _ (by omega) (by omega) (by omega)]; exact t1
  have eB : bN (pgS σ l) (sN σ) = 0 := by unfold bN; rw [u _ _ (by omega) (by omega) (by omega)]; exact t2
  refine x.addPg (ν := fun _ => (sN σ, 0)) E z n8 ⟨n1, ⟨n9, fun w => ?_, fun j hj => ?_⟩, n15, fun w => ?_, fun j hj => ?_⟩ ⟨⟨⟨n2, rfl⟩, ?_, ?_, ?_⟩, ⟨n6, ⟨⟨n7, n10, by rw [eP]; exact n11, by omega⟩, fun j hj => ?_⟩, rfl, fun _ => rfl, fun j hj => ?_⟩, n13, ⟨⟨n14, n16, by rw [eB]; exact n17, by omega⟩, fun j hj => ?_⟩, rfl, fun _ => rfl, fun j hj => ?_⟩ e0 ⟨u _ _ (by omega) (by omega) (by omega), u _ _ (by omega) (by omega) (by omega), u _ _ (by omega) (by omega) (by omega), u _ _ (by omega) (by omega) (by omega)⟩ (fun k a b j => u _ _ (by omega) (by omega) (by omega)) (fun p hp => ⟨fun k a b => u _ _ (by omega) (by omega) (by omega), fun k a b i hi => u _ _ (by omega) (by omega) (by omega), fun k a b i hi g hg => u _ _ (by omega) (by omega) (by omega), fun k a b i hi => u _ _ (by omega) (by omega) (by omega)⟩)
  · rcases n12 with w2 | w2
    · rw [w2] at w; cases w
    · exact w2
  · rw [n11] at hj; omega
  · rcases n18 with w2 | w2
    · rw [w2] at w; cases w
    · exact w2
  · rw [n17] at hj; omega
  · rw [n3]; unfold pgS; rw [su_at, if_neg (by omega), su_at, if_neg (by omega), su_at, if_pos ⟨rfl, rfl⟩]
  · rw [n4, u _ _ (by omega) (by omega) (by omega)]; exact t3.symm
  · rw [n5]
    show pgS σ l 5 (sN σ) = -1
    unfold pgS; rw [su_at, if_neg (by omega), su_at, if_pos ⟨rfl, rfl⟩]
  · rw [eP] at hj; omega
  · rw [eP] at hj; omega
  · rw [eB] at hj; omega
  · rw [eB] at hj; omega
def wp_X8_page_0 (P : Option Value → hp_T → Prop) (X : String → hp_T → Prop) : KT :=
  i_aload 0 (i_callV 0 10 T_X8_requireRoomForPage X (i_aload 0 (i_new 5 (i_dup (i_iload 1 (i_callI 1 T_X3_init noX (i_callV 1 10 T_X8_addPage noX (i_iret P))))))))
theorem wx_X8_page_0 (P : Option Value → hp_T → Prop) (X : String → hp_T → Prop) (ls : List (Option Value)) (st : List Value) (h : hp_T) : wp_X8_page_0 P X ls st h = (i_aload 0 (i_callV 0 10 T_X8_requireRoomForPage X (i_aload 0 (i_new 5 (i_dup (i_iload 1 (i_callI 1 T_X3_init noX (i_callV 1 10 T_X8_addPage noX (i_iret P))))))))) ls st h := rfl
set_option maxRecDepth 20000 in
theorem go_X8_page_0 {z : zT} {P : Option Value → hp_T → Prop} {X : String → hp_T → Prop} (hz : Cx z cX8_page 2 "Panelry" "page" 9 5 117) (hr : Rt z (some .int) P X 5 117) : Go z 0 0 0 (wp_X8_page_0 P X) := 
  s_aload_n hz rfl dX8_page_0 (s_callV hz ct_X8_requireRoomForPage ⟨w233, w236, w29, by decide, by decide, by decide +kernel⟩ w235 w5 cls9 rfl rfl rfl rfl rfl rfl (out_rt hz hr (Nat.le_of_ble_eq_true rfl)
    (Nat.le_of_ble_eq_true rfl)) dX8_page_1 (s_aload_n hz rfl dX8_page_4 (s_new hz kO_5 cls4 w130 w305 w38 rfl rfl dX8_page_5 (s_dup hz dX8_page_8 (s_iload_n hz rfl dX8_page_9 (s_callI hz ct_X3_init ⟨w306, w308, w38, by decide, by decide, by decide +kernel⟩ w307 rfl rfl rfl rfl rfl out_no dX8_page_10
    (s_callV hz ct_X8_addPage ⟨w332, w335, w29, by decide, by decide, by decide +kernel⟩ w334 w7 cls9 rfl rfl rfl rfl rfl rfl out_no dX8_page_13 (s_iret hz hr rfl rfl dX8_page_16))))))))

def T_X8_page : PT := fun av h P X => match av with
  | [.ref c, .int l] => (True) ∧ (∃ σ, (RC h c σ ∧ WF σ) ∧ l &&& 1 = l ∧ (¬ sN σ < 8 → (∀ h', CE h c σ h' → X "java/lang/IllegalStateException" h')) ∧ (sN σ < 8 → ∀ h', CE h c (pgS σ l) h' → P (some (.int (nI (sN σ)))) h'))
  | _ => False
theorem tx_X8_page (c : Nat) (l : Int32) (h : hp_T) (P : Option Value → hp_T → Prop) (X : String → hp_T → Prop) : T_X8_page [.ref c, .int l] h P X = ((True) ∧ (∃ σ, (RC h c σ ∧ WF σ) ∧ l &&& 1 = l ∧ (¬ sN σ < 8 → (∀ h', CE h c σ h' → X "java/lang/IllegalStateException" h')) ∧ (sN σ < 8 → ∀ h', CE h c (pgS σ l) h' → P (some (.int (nI (sN σ)))) h'))) := rfl
set_option maxRecDepth 20000 in
theorem ct_X8_page : CT yX8_page cX8_page 2 (some .int) 9 5 117 T_X8_page := by
  refine ct_ofE (by decide) (fun z av h P X hT hz hr => ?_) (fun av h P X hT => ?_)
  · unfold T_X8_page at hT
    split at hT
    · rename_i c l
      obtain ⟨hk, hp⟩ := hT
      obtain ⟨σ, ⟨hX, hW⟩, hl, h1, h2⟩ := hp
      have kc := hX.cp hW
      have hn := hX.n
      have k1 := hX.1.1
      have k2 := hX.1.2.1
      have k3 := hX.1.2.2
      refine ⟨_, go_X8_page_0 hz hr, ?_⟩
      show wp_X8_page_0 P X [some (.ref c), some (.int l)] [] h
      simp (disch := omega) only [wx_X8_page_0, tx_X8_requireRoomForPage, tx_X3_init, tx_X8_addPage, aq_pushI, aq_pushN, aq_pushL, aq_iload0, ap_aload0r, ap_aload0n, ap_aload0o, aq_istore0, ap_astore0r, ap_astore0n, ap_astore0o, aq_iinc0, aq_iload1, ap_aload1r, ap_aload1n, ap_aload1o, aq_istore1, ap_astore1r, ap_astore1n, ap_astore1o, aq_iinc1, aq_iload2, ap_aload2r, ap_aload2n, ap_aload2o, aq_istore2, ap_astore2r, ap_astore2n, ap_astore2o, aq_iinc2, aq_iload3, ap_aload3r, ap_aload3n, ap_aload3o, aq_istore3, ap_astore3r, ap_astore3n, ap_astore3o, aq_iinc3, aq_iload4, ap_aload4r, ap_aload4n, ap_aload4o, aq_istore4, ap_astore4r, ap_astore4n, ap_astore4o, aq_iinc4, aq_iload5, ap_aload5r, ap_aload5n, ap_aload5o, aq_istore5, ap_astore5r, ap_astore5n, ap_astore5o, aq_iinc5, aq_iload6, ap_aload6r, ap_aload6n, ap_aload6o, aq_istore6, ap_astore6r, ap_astore6n, ap_astore6o, aq_iinc6, aq_iload7, ap_aload7r, ap_aload7n, ap_aload7o, aq_istore7, ap_astore7r, ap_astore7n, ap_astore7o, aq_iinc7, aq_iload8, ap_aload8r, ap_aload8n, ap_aload8o, aq_istore8, ap_astore8r, ap_astore8n, ap_astore8o, aq_iinc8, aq_iload9, ap_aload9r, ap_aload9n, ap_aload9o, aq_istore9, ap_astore9r, ap_astore9n, ap_astore9o, aq_iinc9, aq_iload10, ap_aload10r, ap_aload10n, ap_aload10o, aq_istore10, ap_astore10r, ap_astore10n, ap_astore10o, aq_iinc10, aq_iload11, ap_aload11r, ap_aload11n, ap_aload11o, aq_istore11, ap_astore11r, ap_astore11n, ap_astore11o, aq_iinc11, aq_iload12, ap_aload12r, ap_aload12n, ap_aload12o, aq_istore12, ap_astore12r, ap_astore12n, ap_astore12o, aq_iinc12, aq_iload13, ap_aload13r, ap_aload13n, ap_aload13o, aq_istore13, ap_astore13r, ap_astore13n, ap_astore13o, aq_iinc13, aq_iload14, ap_aload14r, ap_aload14n, ap_aload14o, aq_istore14, ap_astore14r, ap_astore14n, ap_astore14o, aq_iinc14, aq_iload15, ap_aload15r, ap_aload15n, ap_aload15o, aq_istore15, ap_astore15r, ap_astore15n, ap_astore15o, aq_iinc15, aq_iadd, aq_isub, aq_imul, aq_iand, aq_ior, aq_ixor, aq_ishl, aq_ishr, aq_iushr, aq_idiv, aq_i2l, aq_lcmp, aq_dup, aq_pop, aq_dupx1, aq_dup2, ap_ifeq, ap_ifne, ap_iflt, ap_ifge, ap_ifgt, ap_ifle, ap_iceq, ap_icne, ap_iclt, ap_icge, ap_icgt, ap_icle, ap_ifnullr, ap_ifnulln, ap_ifnullo, aq_getI, aq_getR, aq_putI, aq_putZ, ap_putRr, ap_putRn, ap_putRo, aq_new, aq_newarr, aq_ald, aq_lald, aq_aald, aq_alen, aq_ast, aq_zast, ap_last, aq_aast, ap_castr, aq_gste, aq_objinit, aq_mmax, aq_mmin, aq_dead, aq_iret, aq_zret, aq_aret, aq_vret, aq_throw, aq_callV0, aq_callI0, aq_callS0, aq_callV1, aq_callI1, aq_callS1, aq_callV2, aq_callI2, aq_callS2, aq_callV3, aq_callI3, aq_callS3, aq_callV4, aq_callI4, aq_callS4, aq_callV5, aq_callI5, aq_callS5, aq_callV6, aq_callI6, aq_callS6, aq_callV7, aq_callI7, aq_callS7, aq_callV8, aq_callI8, aq_callS8, aq_callV9, aq_callI9, aq_callS9, pushO, isRf_ref, isRf_null, isRf_rf, isC1_int, isC1_ref, isC1_null, isC1_rf, true_and, and_true, List.length_cons, List.length_nil, Nat.reduceAdd, Nat.reduceLeDiff, hK_sI, hN_sI, hR_sI, hI_sI, hK_sR, hN_sR, hR_sR, hI_sR, kC_2, kC_3, kC_4, kC_5, kC_6, kC_7, kC_8, kC_9, kC_10, kC_11, kC_20, kC_21, kC_22, kC_23, i2_0, i1_1, i0_1, i1_0, bI_and, bI_0, Decidable.not_not, not_false_eq_true, not_true_eq_false, forall_const, false_implies, true_implies, hK_copy, hN_copy, hI_copy, hC_sI, hC_sR, hC_new, hK_new, hN_new, hI_new, hR_new, rf_some, rf_none, ex_ref, ex_null, ex_rf, nref_null, rf_null, Nat.reduceEqDiff, reduceCtorEq, false_and, and_false, if_false, if_true, ne_eq, kO_150, kO_151, kO_152, kO_170, kO_180, kO_190, Value.ref.injEq, exists_eq_left', false_or, ↓reduceIte, and_self, not_true_eq_false, kc, hn, k1]
      refine ⟨fun n8 q hq => ?_, fun e => h1 e h (CE.rfl hX)⟩
      have cq : ¬ c = q := fun e => by rw [e, hq] at k1; cases k1
      have zq : ¬ hC h 0 = q := fun e => by rw [e, hq] at k2; cases k2
      simp (disch := omega) only [tx_X8_requireRoomForPage, tx_X3_init, tx_X8_addPage, aq_pushI, aq_pushN, aq_pushL, aq_iload0, ap_aload0r, ap_aload0n, ap_aload0o, aq_istore0, ap_astore0r, ap_astore0n, ap_astore0o, aq_iinc0, aq_iload1, ap_aload1r, ap_aload1n, ap_aload1o, aq_istore1, ap_astore1r, ap_astore1n, ap_astore1o, aq_iinc1, aq_iload2, ap_aload2r, ap_aload2n, ap_aload2o, aq_istore2, ap_astore2r, ap_astore2n, ap_astore2o, aq_iinc2, aq_iload3, ap_aload3r, ap_aload3n, ap_aload3o, aq_istore3, ap_astore3r, ap_astore3n, ap_astore3o, aq_iinc3, aq_iload4, ap_aload4r, ap_aload4n, ap_aload4o, aq_istore4, ap_astore4r, ap_astore4n, ap_astore4o, aq_iinc4, aq_iload5, ap_aload5r, ap_aload5n, ap_aload5o, aq_istore5, ap_astore5r, ap_astore5n, ap_astore5o, aq_iinc5, aq_iload6, ap_aload6r, ap_aload6n, ap_aload6o, aq_istore6, ap_astore6r, ap_astore6n, ap_astore6o, aq_iinc6, aq_iload7, ap_aload7r, ap_aload7n, ap_aload7o, aq_istore7, ap_astore7r, ap_astore7n, ap_astore7o, aq_iinc7, aq_iload8, ap_aload8r, ap_aload8n, ap_aload8o, aq_istore8, ap_astore8r, ap_astore8n, ap_astore8o, aq_iinc8, aq_iload9, ap_aload9r, ap_aload9n, ap_aload9o, aq_istore9, ap_astore9r, ap_astore9n, ap_astore9o, aq_iinc9, aq_iload10, ap_aload10r, ap_aload10n, ap_aload10o, aq_istore10, ap_astore10r, ap_astore10n, ap_astore10o, aq_iinc10, aq_iload11, ap_aload11r, ap_aload11n, ap_aload11o, aq_istore11, ap_astore11r, ap_astore11n, ap_astore11o, aq_iinc11, aq_iload12, ap_aload12r, ap_aload12n, ap_aload12o, aq_istore12, ap_astore12r, ap_astore12n, ap_astore12o, aq_iinc12, aq_iload13, ap_aload13r, ap_aload13n, ap_aload13o, aq_istore13, ap_astore13r, ap_astore13n, ap_astore13o, aq_iinc13, aq_iload14, ap_aload14r, ap_aload14n, ap_aload14o, aq_istore14, ap_astore14r, ap_astore14n, ap_astore14o, aq_iinc14, aq_iload15, ap_aload15r, ap_aload15n, ap_aload15o, aq_istore15, ap_astore15r, ap_astore15n, ap_astore15o, aq_iinc15, aq_iadd, aq_isub, aq_imul, aq_iand, aq_ior, aq_ixor, aq_ishl, aq_ishr, aq_iushr, aq_idiv, aq_i2l, aq_lcmp, aq_dup, aq_pop, aq_dupx1, aq_dup2, ap_ifeq, ap_ifne, ap_iflt, ap_ifge, ap_ifgt, ap_ifle, ap_iceq, ap_icne, ap_iclt, ap_icge, ap_icgt, ap_icle, ap_ifnullr, ap_ifnulln, ap_ifnullo, aq_getI, aq_getR, aq_putI, aq_putZ, ap_putRr, ap_putRn, ap_putRo, aq_new, aq_newarr, aq_ald, aq_lald, aq_aald, aq_alen, aq_ast, aq_zast, ap_last, aq_aast, ap_castr, aq_gste, aq_objinit, aq_mmax, aq_mmin, aq_dead, aq_iret, aq_zret, aq_aret, aq_vret, aq_throw, aq_callV0, aq_callI0, aq_callS0, aq_callV1, aq_callI1, aq_callS1, aq_callV2, aq_callI2, aq_callS2, aq_callV3, aq_callI3, aq_callS3, aq_callV4, aq_callI4, aq_callS4, aq_callV5, aq_callI5, aq_callS5, aq_callV6, aq_callI6, aq_callS6, aq_callV7, aq_callI7, aq_callS7, aq_callV8, aq_callI8, aq_callS8, aq_callV9, aq_callI9, aq_callS9, pushO, isRf_ref, isRf_null, isRf_rf, isC1_int, isC1_ref, isC1_null, isC1_rf, true_and, and_true, List.length_cons, List.length_nil, Nat.reduceAdd, Nat.reduceLeDiff, hK_sI, hN_sI, hR_sI, hI_sI, hK_sR, hN_sR, hR_sR, hI_sR, kC_2, kC_3, kC_4, kC_5, kC_6, kC_7, kC_8, kC_9, kC_10, kC_11, kC_20, kC_21, kC_22, kC_23, i2_0, i1_1, i0_1, i1_0, bI_and, bI_0, Decidable.not_not, not_false_eq_true, not_true_eq_false, forall_const, false_implies, true_implies, hK_copy, hN_copy, hI_copy, hC_sI, hC_sR, hC_new, hK_new, hN_new, hI_new, hR_new, rf_some, rf_none, ex_ref, ex_null, ex_rf, nref_null, rf_null, Nat.reduceEqDiff, reduceCtorEq, false_and, and_false, if_false, if_true, ne_eq, kO_150, kO_151, kO_152, kO_170, kO_180, kO_190, Value.ref.injEq, exists_eq_left', false_or, ↓reduceIte, and_self, not_true_eq_false, cq, zq, k1, k2, k3, hl, hK_new, hN_new, hC_new, kC_5]
      intro q1 q2 f1 f2 ne
      have g1 : hK (hnew h q 5 0) q1 = 0 := by rw [hK_new]; exact f1
      have g2 : hK (hnew h q 5 0) q2 = 0 := by rw [hK_new]; exact f2
      obtain ⟨E, N⟩ := page_newl (l := l) ⟨k2, k3⟩ hq g1 g2 ne
      generalize hpage (hnew h q 5 0) q q1 q2 l = H at E N ⊢
      obtain ⟨d0, ⟨r1, r2, r3⟩, r4, r5⟩ := hX.list_ext E
      have r6 := N.1.2.1
      have r7 : lsz H (dR H 640 c) < 40 := by omega
      simp (disch := omega) only [tx_X8_requireRoomForPage, tx_X3_init, tx_X8_addPage, aq_pushI, aq_pushN, aq_pushL, aq_iload0, ap_aload0r, ap_aload0n, ap_aload0o, aq_istore0, ap_astore0r, ap_astore0n, ap_astore0o, aq_iinc0, aq_iload1, ap_aload1r, ap_aload1n, ap_aload1o, aq_istore1, ap_astore1r, ap_astore1n, ap_astore1o, aq_iinc1, aq_iload2, ap_aload2r, ap_aload2n, ap_aload2o, aq_istore2, ap_astore2r, ap_astore2n, ap_astore2o, aq_iinc2, aq_iload3, ap_aload3r, ap_aload3n, ap_aload3o, aq_istore3, ap_astore3r, ap_astore3n, ap_astore3o, aq_iinc3, aq_iload4, ap_aload4r, ap_aload4n, ap_aload4o, aq_istore4, ap_astore4r, ap_astore4n, ap_astore4o, aq_iinc4, aq_iload5, ap_aload5r, ap_aload5n, ap_aload5o, aq_istore5, ap_astore5r, ap_astore5n, ap_astore5o, aq_iinc5, aq_iload6, ap_aload6r, ap_aload6n, ap_aload6o, aq_istore6, ap_astore6r, ap_astore6n, ap_astore6o, aq_iinc6, aq_iload7, ap_aload7r, ap_aload7n, ap_aload7o, aq_istore7, ap_astore7r, ap_astore7n, ap_astore7o, aq_iinc7, aq_iload8, ap_aload8r, ap_aload8n, ap_aload8o, aq_istore8, ap_astore8r, ap_astore8n, ap_astore8o, aq_iinc8, aq_iload9, ap_aload9r, ap_aload9n, ap_aload9o, aq_istore9, ap_astore9r, ap_astore9n, ap_astore9o, aq_iinc9, aq_iload10, ap_aload10r, ap_aload10n, ap_aload10o, aq_istore10, ap_astore10r, ap_astore10n, ap_astore10o, aq_iinc10, aq_iload11, ap_aload11r, ap_aload11n, ap_aload11o, aq_istore11, ap_astore11r, ap_astore11n, ap_astore11o, aq_iinc11, aq_iload12, ap_aload12r, ap_aload12n, ap_aload12o, aq_istore12, ap_astore12r, ap_astore12n, ap_astore12o, aq_iinc12, aq_iload13, ap_aload13r, ap_aload13n, ap_aload13o, aq_istore13, ap_astore13r, ap_astore13n, ap_astore13o, aq_iinc13, aq_iload14, ap_aload14r, ap_aload14n, ap_aload14o, aq_istore14, ap_astore14r, ap_astore14n, ap_astore14o, aq_iinc14, aq_iload15, ap_aload15r, ap_aload15n, ap_aload15o, aq_istore15, ap_astore15r, ap_astore15n, ap_astore15o, aq_iinc15, aq_iadd, aq_isub, aq_imul, aq_iand, aq_ior, aq_ixor, aq_ishl, aq_ishr, aq_iushr, aq_idiv, aq_i2l, aq_lcmp, aq_dup, aq_pop, aq_dupx1, aq_dup2, ap_ifeq, ap_ifne, ap_iflt, ap_ifge, ap_ifgt, ap_ifle, ap_iceq, ap_icne, ap_iclt, ap_icge, ap_icgt, ap_icle, ap_ifnullr, ap_ifnulln, ap_ifnullo, aq_getI, aq_getR, aq_putI, aq_putZ, ap_putRr, ap_putRn, ap_putRo, aq_new, aq_newarr, aq_ald, aq_lald, aq_aald, aq_alen, aq_ast, aq_zast, ap_last, aq_aast, ap_castr, aq_gste, aq_objinit, aq_mmax, aq_mmin, aq_dead, aq_iret, aq_zret, aq_aret, aq_vret, aq_throw, aq_callV0, aq_callI0, aq_callS0, aq_callV1, aq_callI1, aq_callS1, aq_callV2, aq_callI2, aq_callS2, aq_callV3, aq_callI3, aq_callS3, aq_callV4, aq_callI4, aq_callS4, aq_callV5, aq_callI5, aq_callS5, aq_callV6, aq_callI6, aq_callS6, aq_callV7, aq_callI7, aq_callS7, aq_callV8, aq_callI8, aq_callS8, aq_callV9, aq_callI9, aq_callS9, pushO, isRf_ref, isRf_null, isRf_rf, isC1_int, isC1_ref, isC1_null, isC1_rf, true_and, and_true, List.length_cons, List.length_nil, Nat.reduceAdd, Nat.reduceLeDiff, hK_sI, hN_sI, hR_sI, hI_sI, hK_sR, hN_sR, hR_sR, hI_sR, kC_2, kC_3, kC_4, kC_5, kC_6, kC_7, kC_8, kC_9, kC_10, kC_11, kC_20, kC_21, kC_22, kC_23, i2_0, i1_1, i0_1, i1_0, bI_and, bI_0, Decidable.not_not, not_false_eq_true, not_true_eq_false, forall_const, false_implies, true_implies, hK_copy, hN_copy, hI_copy, hC_sI, hC_sR, hC_new, hK_new, hN_new, hI_new, hR_new, rf_some, rf_none, ex_ref, ex_null, ex_rf, nref_null, rf_null, Nat.reduceEqDiff, reduceCtorEq, false_and, and_false, if_false, if_true, ne_eq, kO_150, kO_151, kO_152, kO_170, kO_180, kO_190, Value.ref.injEq, exists_eq_left', false_or, ↓reduceIte, and_self, not_true_eq_false, r1, r2, r3, r4, r5, r6, r7, kC_10]
      refine ⟨by omega, fun h' z => ?_⟩
      rw [d0] at z
      exact h2 n8 h' ⟨page_RC hX hW n8 E N z, (MFr.of_ext E).trans (MFr.add z (by rw [← d0, r3]; simp [isL]))⟩
    · exact hT.elim
  · unfold T_X8_page at hT
    split at hT
    · exact ⟨Nat.le_of_ble_eq_true rfl, by simp [isC1_int, isC1_ref, isC1_null, isC1_rf]⟩
    · exact hT.elim
