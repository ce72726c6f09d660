def okL (k : Nat) : Bool := okK k || (k == 22 || k == 23 || k == 162 || k == 163 || k == 190)
/-- all of the pages as it was -/
def Exl (h h' : hp_T) : Prop := (∀ b, okL (hK h b) = true → sameAt h h' b) ∧ (∀ b, hK h b ≠ 0 → hK h' b = hK h b) ∧ ∀ i, hC h' i = hC h i
theorem Exl.o {h h' : hp_T} (e : Exl h h') : Exo h h' := fun b hb => e.1 b (by unfold okL; rw [hb]; rfl)
theorem pgOK.exl {h h' : hp_T} (e : Exl h h') {a : Nat} (k : pgOK h a) : pgOK h' a ∧ pgEq h h' a := by
  obtain ⟨k1, ⟨k2, k3, k4, k5, k6⟩, ⟨k7, k8, k9, k10, k11⟩, k12, k13⟩ := k
  have s := e.o a (by rw [k1]; rfl)
  have d0 := s.dR 320
  have d1 := s.dR 321
  obtain ⟨e1, e2, e3⟩ := s
  have row : ∀ L, lOK h L → hK h L = 22 ∨ hK h L = 23 → sameAt h h' (lda h L) := fun L kl kk => by
    refine e.1 _ ?_
    rcases kl.2.2.2.2.1 with ⟨-, -, c, -⟩ | ⟨c, -⟩
    · rw [c]; rfl
    · rw [c]; rcases kk with z | z <;> rw [z] <;> rfl
  obtain ⟨m1, m2, m3, m4⟩ := k4.same (e.1 _ (by rw [k3]; rfl)) (row _ k4 (Or.inl k3)) e.2.1 e.2.2
  obtain ⟨n1, n2, n3, n4⟩ := k9.same (e.1 _ (by rw [k8]; rfl)) (row _ k9 (Or.inr k8)) e.2.1 e.2.2
  have q1 : pnN h' a = pnN h a := by unfold pnN; rw [d0, m2]
  have q2 : ∀ j, pn h' a j = pn h a j := fun j => by unfold pn; rw [d0, m4]
  have q3 : blN h' a = blN h a := by unfold blN; rw [d1, n2]
  have q4 : ∀ j, bl h' a j = bl h a j := fun j => by unfold bl; rw [d1, n4]
  refine ⟨⟨e1.trans k1, ⟨by rw [d0, (e3 _ _).2]; exact k2, by rw [d0, e.2.1 _ (by rw [k3]; decide)]; exact k3, by rw [d0]; exact m1, by rw [q1]; exact k5, fun j hj => by rw [q2]; exact ((k6 j (by rw [← q1]; exact hj)).exo e.o).1⟩,
    ⟨by rw [d1, (e3 _ _).2]; exact k7, by rw [d1, e.2.1 _ (by rw [k8]; decide)]; exact k8, by rw [d1]; exact n1, by rw [q3]; exact k10, fun j hj => by rw [q4]; exact ((k11 j (by rw [← q3]; exact hj)).exo e.o).1⟩, by rw [(e3 _ _).1]; exact k12, ?_⟩,
    q1, q2, q3, q4, fun j hj => by unfold pb; rw [q2]; exact ((k6 j hj).exo e.o).2.1, fun j hj => by unfold bb; rw [q4]; exact ((k11 j hj).exo e.o).2, fun g i => (e3 g i).1, fun g i => (e3 g i).2⟩
  rw [(e3 _ _).2]
  rcases k13 with c | ⟨r, c1, c2, c3⟩
  · exact Or.inl c
  · have := e.1 r (by rw [c2]; rfl)
    exact Or.inr ⟨r, c1, this.1.trans c2, this.2.1.trans c3⟩
/-- where a panel begins and ends, across or downward -/
def pBeg (h : hp_T) (a : Nat) (c : Int32) (j : Nat) : Int32 := if j < pnN h a then (if c = 0 then hI h 192 (pb h a j) 0 else hI h 193 (pb h a j) 0) else 0
def pEnd (h : hp_T) (a : Nat) (c : Int32) (j : Nat) : Int32 := if j < pnN h a then (if c = 0 then hI h 192 (pb h a j) 0 + hI h 194 (pb h a j) 0 else hI h 193 (pb h a j) 0 + hI h 195 (pb h a j) 0) else 0
def gutL (B E : Nat → Int32) (s line : Int32) : Nat → Nat → Int32 → Int32
  | 0, _, m => if m = -1 then -1 else m - line
  | k + 1, i, m => if (s >>> (nI i &&& 31)) &&& 1 = 1 ∧ line < E i then (if B i < line then -1 else gutL B E s line k (i + 1) (if m = -1 then B i else miI m (B i))) else gutL B E s line k (i + 1) m
/-- the gutter of a set behind a line -/
def gut (n : Nat) (B E : Nat → Int32) (s line : Int32) : Int32 := if line = -1 then -1 else gutL B E s line n 0 (-1)
/-- a reading that stands -/
def rdOK (h : hp_T) (r : Nat) : Prop := (hK h r = 7 ∧ hR h 448 r 0 = some (dR h 448 r) ∧ hI h 449 r 0 &&& 1 = hI h 449 r 0) ∧ (hR h 450 r 0 = some (dR h 450 r) ∧ hK h (dR h 450 r) = 150 ∧ hN h (dR h 450 r) = 8) ∧ pgOK h (dR h 448 r)
abbrev gutH (h : hp_T) (r : Nat) (s c line : Int32) : Int32 := gut (pnN h (dR h 448 r)) (pBeg h (dR h 448 r) c) (pEnd h (dR h 448 r) c) s line
def wp_X5_gutterAt_0 (P : Option Value → hp_T → Prop) (X : String → hp_T → Prop) (K6 : KT) : KT :=
  i_pushI (-1) (i_istore 4 (i_pushI 0 (i_istore 5 K6)))
set_option maxRecDepth 20000 in
theorem go_X5_gutterAt_0 {z : zT} {P : Option Value → hp_T → Prop} {X : String → hp_T → Prop} {K6 : KT} (hz : Cx z cX5_gutterAt 8 "Panelry$Reading" "gutterAt" 3 0 0) (hr : Rt z (some .int) P X 0 0) (h6 : Go z 0 0 6 K6) : Go z 0 0 0 (wp_X5_gutterAt_0 P X K6) := 
  s_iconst hz rfl dX5_gutterAt_0 (s_istore hz rfl dX5_gutterAt_1 (s_iconst hz rfl dX5_gutterAt_3 (s_istore hz rfl dX5_gutterAt_4 h6)))
def wp_X5_gutterAt_101 (P : Option Value → hp_T → Prop) (X : String → hp_T → Prop) (K6 : KT) : KT :=
  i_iinc 5 1 K6
set_option maxRecDepth 20000 in
theorem go_X5_gutterAt_101 {z : zT} {P : Option Value → hp_T → Prop} {X : String → hp_T → Prop} {K6 : KT} (hz : Cx z cX5_gutterAt 8 "Panelry$Reading" "gutterAt" 3 0 0) (hr : Rt z (some .int) P X 0 0) (h6 : Go z 0 0 6 K6) : Go z 0 0 101 (wp_X5_gutterAt_101 P X K6) := 
  s_iinc hz rfl rfl dX5_gutterAt_101 (s_goto hz (tgt := 6) rfl dX5_gutterAt_104 h6)
def wp_X5_gutterAt_99 (P : Option Value → hp_T → Prop) (X : String → hp_T → Prop) (K6 : KT) : KT :=
  i_istore 4 (wp_X5_gutterAt_101 P X K6)
set_option maxRecDepth 20000 in
theorem go_X5_gutterAt_99 {z : zT} {P : Option Value → hp_T → Prop} {X : String → hp_T → Prop} {K6 : KT} (hz : Cx z cX5_gutterAt 8 "Panelry$Reading" "gutterAt" 3 0 0) (hr : Rt z (some .int) P X 0 0) (h6 : Go z 0 0 6 K6) : Go z 0 0 99 (wp_X5_gutterAt_99 P X K6) := 
  s_istore hz rfl dX5_gutterAt_99 (go_X5_gutterAt_101 hz hr h6)
def wp_X5_gutterAt_121 (P : Option Value → hp_T → Prop) (X : String → hp_T → Prop) : KT :=
  i_iret P
set_option maxRecDepth 20000 in
theorem go_X5_gutterAt_121 {z : zT} {P : Option Value → hp_T → Prop} {X : String → hp_T → Prop} (hz : Cx z cX5_gutterAt 8 "Panelry$Reading" "gutterAt" 3 0 0) (hr : Rt z (some .int) P X 0 0) : Go z 0 0 121 (wp_X5_gutterAt_121 P X) := 
  s_iret hz hr rfl rfl dX5_gutterAt_121
def wp_X5_gutterAt_107 (P : Option Value → hp_T → Prop) (X : String → hp_T → Prop) : KT :=
  i_iload 4 (i_pushI (-1) (i_icne (i_iload 4 (i_iload 3 (i_isub (wp_X5_gutterAt_121 P X)))) (i_pushI (-1) (wp_X5_gutterAt_121 P X))))
set_option maxRecDepth 20000 in
theorem go_X5_gutterAt_107 {z : zT} {P : Option Value → hp_T → Prop} {X : String → hp_T → Prop} (hz : Cx z cX5_gutterAt 8 "Panelry$Reading" "gutterAt" 3 0 0) (hr : Rt z (some .int) P X 0 0) : Go z 0 0 107 (wp_X5_gutterAt_107 P X) := 
  s_iload hz dX5_gutterAt_107 (s_iconst hz rfl dX5_gutterAt_109 (s_icne hz (tgt := 117) rfl dX5_gutterAt_110 (s_iload hz dX5_gutterAt_117 (s_iload_n hz rfl dX5_gutterAt_119 (s_isub hz dX5_gutterAt_120
    (go_X5_gutterAt_121 hz hr)))) (s_iconst hz rfl dX5_gutterAt_113 (s_goto hz (tgt := 121) rfl dX5_gutterAt_114 (go_X5_gutterAt_121 hz hr)))))
def wp_X5_gutterAt_6 (P : Option Value → hp_T → Prop) (X : String → hp_T → Prop) (K6 : KT) : KT :=
  i_iload 5 (i_aload 0 (i_getR 7 448 (i_getR 5 320 (i_callV 0 1 T_Jx4a65c_size_8abf5 noX (i_icge (wp_X5_gutterAt_107 P X) (i_iload 3 (i_pushI (-1) (i_iceq (wp_X5_gutterAt_107 P X) (i_aload 0
    (i_getR 7 448 (i_getR 5 320 (i_iload 5 (i_callV 1 1 T_Jx4a65c_get_915e3 noX (i_cast 6 (i_getR 6 384 (i_astore 6 (i_aload 6 (i_iload 2 (i_callV 1 3 T_X1_beginFor noX (i_istore 7 (i_iload 1
    (i_iload 5 (i_callS 2 T_X8_isIn noX (i_ifeq (wp_X5_gutterAt_101 P X K6) (i_aload 6 (i_iload 2 (i_callV 1 3 T_X1_endFor noX (i_iload 3 (i_icle (wp_X5_gutterAt_101 P X K6) (i_iload 7 (i_iload 3
    (i_icge (i_iload 4 (i_pushI (-1) (i_icne (i_iload 4 (i_iload 7 (i_mmin (wp_X5_gutterAt_99 P X K6)))) (i_iload 7 (wp_X5_gutterAt_99 P X K6))))) (i_pushI (-1) (i_iret P))))))))))))))))))))))))))))))))))
set_option maxRecDepth 20000 in
theorem go_X5_gutterAt_6 {z : zT} {P : Option Value → hp_T → Prop} {X : String → hp_T → Prop} {K6 : KT} (hz : Cx z cX5_gutterAt 8 "Panelry$Reading" "gutterAt" 3 0 0) (hr : Rt z (some .int) P X 0 0) (h6 : Go z 0 0 6 K6) : Go z 0 0 6 (wp_X5_gutterAt_6 P X K6) := 
  s_iload hz dX5_gutterAt_6 (s_aload_n hz rfl dX5_gutterAt_8 (fg_RX5_15 hz dX5_gutterAt_9 (fg_RX5_77 hz dX5_gutterAt_12 (s_callV hz ct_Jx4a65c_size_8abf5 ⟨w182, w115, w32, by decide, by decide, by decide +kernel⟩ w113 w114 cls0 rfl rfl rfl rfl rfl rfl out_no dX5_gutterAt_15
    (s_icge hz (tgt := 107) rfl dX5_gutterAt_18 (go_X5_gutterAt_107 hz hr) (s_iload_n hz rfl dX5_gutterAt_21 (s_iconst hz rfl dX5_gutterAt_22 (s_iceq hz (tgt := 107) rfl dX5_gutterAt_23 (go_X5_gutterAt_107 hz hr)
    (s_aload_n hz rfl dX5_gutterAt_26 (fg_RX5_15 hz dX5_gutterAt_27 (fg_RX5_77 hz dX5_gutterAt_30 (s_iload hz dX5_gutterAt_33 (s_callV hz ct_Jx4a65c_get_915e3 ⟨w190, w119, w32, by decide, by decide, by decide +kernel⟩ w117 w118 cls0 rfl rfl rfl rfl rfl rfl out_no dX5_gutterAt_35
    (s_cast hz kO_6 rfl cls5 w191 dX5_gutterAt_38 (fg_RX5_96 hz dX5_gutterAt_41 (s_astore hz rfl dX5_gutterAt_44 (s_aload hz dX5_gutterAt_46 (s_iload_n hz rfl dX5_gutterAt_48 (s_callV hz ct_X1_beginFor ⟨w200, w203, w47, by decide, by decide, by decide +kernel⟩ w201 w202 cls2 rfl rfl rfl rfl rfl rfl out_no dX5_gutterAt_49
    (s_istore hz rfl dX5_gutterAt_52 (s_iload_n hz rfl dX5_gutterAt_54 (s_iload hz dX5_gutterAt_55 (s_callSN (host := "Panelry") hz ct_X8_isIn (Or.inr rfl) ⟨w185, w29, by decide, by decide, by decide +kernel⟩ w184 rfl rfl rfl rfl out_no dX5_gutterAt_57
    (s_ifeq hz (tgt := 101) rfl dX5_gutterAt_60 (go_X5_gutterAt_101 hz hr h6) (s_aload hz dX5_gutterAt_63 (s_iload_n hz rfl dX5_gutterAt_65 (s_callV hz ct_X1_endFor ⟨w192, w195, w47, by decide, by decide, by decide +kernel⟩ w193 w194 cls2 rfl rfl rfl rfl rfl rfl out_no dX5_gutterAt_66
    (s_iload_n hz rfl dX5_gutterAt_69 (s_icle hz (tgt := 101) rfl dX5_gutterAt_70 (go_X5_gutterAt_101 hz hr h6) (s_iload hz dX5_gutterAt_73 (s_iload_n hz rfl dX5_gutterAt_75 (s_icge hz (tgt := 81) rfl dX5_gutterAt_76
    (s_iload hz dX5_gutterAt_81 (s_iconst hz rfl dX5_gutterAt_83 (s_icne hz (tgt := 92) rfl dX5_gutterAt_84 (s_iload hz dX5_gutterAt_92 (s_iload hz dX5_gutterAt_94 (s_mmin hz w204 w205 w40 w206 rfl rfl rfl dX5_gutterAt_96
    (go_X5_gutterAt_99 hz hr h6)))) (s_iload hz dX5_gutterAt_87 (s_goto hz (tgt := 99) rfl dX5_gutterAt_89 (go_X5_gutterAt_99 hz hr h6)))))) (s_iconst hz rfl dX5_gutterAt_79 (s_iret hz hr rfl rfl dX5_gutterAt_80))))))))))))))))))))))))))))))))))

def T_X5_gutterAt : PT := fun av h P X => match av with
  | [.ref r, .int s, .int c, .int l] => (rdOK h r) ∧ (P (some (.int (gutH h r s c l))) h)
  | _ => False
set_option maxRecDepth 20000 in
theorem ct_X5_gutterAt : CT yX5_gutterAt cX5_gutterAt 8 (some .int) 3 0 0 T_X5_gutterAt := by
  refine ct_ofE (by decide) (fun z av h P X hT hz hr => ?_) (fun av h P X hT => ?_)
  · unfold T_X5_gutterAt at hT
    split at hT
    · rename_i r s c l
      obtain ⟨hk, hp⟩ := hT
      obtain ⟨⟨r1, r2, r3⟩, ⟨r4, r5, r6⟩, kA⟩ := id hk
      obtain ⟨k1, ⟨k2, k3, k4, k5, k6⟩, ⟨k7, k8, k9, k10, k11⟩, k12, k13⟩ := id kA
      have eN : lsz h (dR h 320 (dR h 448 r)) = pnN h (dR h 448 r) := rfl
      have eB : lsz h (dR h 321 (dR h 448 r)) = blN h (dR h 448 r) := rfl
      have eP : ∀ j, lel h (dR h 320 (dR h 448 r)) j = pn h (dR h 448 r) j := fun _ => rfl
      have eL : ∀ j, lel h (dR h 321 (dR h 448 r)) j = bl h (dR h 448 r) j := fun _ => rfl
      have eQ : ∀ j, dR h 384 (pn h (dR h 448 r) j) = pb h (dR h 448 r) j := fun _ => rfl
      have eR : ∀ j, dR h 131 (bl h (dR h 448 r) j) = bb h (dR h 448 r) j := fun _ => rfl
      have hloop := Go.loop (z := z) (cells := 0) (slots := 0) (pc := 6) (fun n ls st h' => ∃ i m o1 o2, i + n = pnN h (dR h 448 r) ∧ ls = [some (.ref r), some (.int s), some (.int c), some (.int l), some (.int m), some (.int (nI i)), o1, o2] ∧ st = [] ∧ h' = h ∧ (l = -1 → m = -1) ∧ (¬ l = -1 → gutL (pBeg h (dR h 448 r) c) (pEnd h (dR h 448 r) c) s l n i m = gutH h r s c l)) (fun k => wp_X5_gutterAt_6 P X k) (fun k hgo => go_X5_gutterAt_6 hz hr hgo) (by
        rintro n ls st h' ⟨i, m, o1, o2, hi, rfl, rfl, rfl, hm, hg⟩
        have hcl : (nI i).toNatClampNeg = i := nI_clamp (by omega)
        have hge : (nI (pnN h' (dR h' 448 r)) ≤ nI i) ↔ ¬ i < pnN h' (dR h' 448 r) := by rw [leI (by omega) (by omega)]; omega
        simp only [wp_X5_gutterAt_0, wp_X5_gutterAt_101, wp_X5_gutterAt_99, wp_X5_gutterAt_121, wp_X5_gutterAt_107, wp_X5_gutterAt_6, T_Jx4a65c_size_8abf5, T_Jx4a65c_get_915e3, T_X1_beginFor, T_X8_isIn, T_X1_endFor, i_mmax, i_mmin, i_pushI, i_pushN, i_pushL, i_iload, i_aload, i_istore, i_astore, i_iinc, i_iadd, i_isub, i_imul, i_iand, i_ior, i_ixor, i_ishl, i_ishr, i_iushr, i_idiv, i_i2l, i_lcmp, i_dup, i_pop, i_dupx1, i_dup2, i_ifeq, i_ifne, i_iflt, i_ifge, i_ifgt, i_ifle, i_iceq, i_icne, i_iclt, i_icge, i_icgt, i_icle, i_ifnull, i_aceq, i_getI, i_getR, i_putI, i_putZ, i_putR, i_new, i_newarr, i_ald, i_lald, i_aald, i_alen, i_ast, i_zast, i_last, i_aast, i_aastL, i_cast, i_gste, i_ldcM, i_getC, i_acopy, i_dead, i_objinit, i_callV, i_callS, i_callI, i_iret, i_zret, i_aret, i_vret, i_throw, popN, pushO, lget, lset, isRf_ref, isRf_null, isRf_rf, isC1_int, isC1_ref, isC1_null, isC1_rf, true_and, and_true, List.length_cons, List.length_nil, Nat.reduceAdd, Nat.reduceLeDiff, hK_sI, hN_sI, hR_sI, hI_sI, hK_sR, hN_sR, hR_sR, hI_sR, kC_2, kC_3, kC_4, kC_5, kC_6, kC_7, kC_8, kC_9, kC_10, kC_11, kC_20, kC_21, kC_22, kC_23, i2_0, i1_1, i0_1, i1_0, bI_and, bI_0, Decidable.not_not, not_false_eq_true, not_true_eq_false, forall_const, false_implies, true_implies, hK_copy, hN_copy, hI_copy, hC_sI, hC_sR, hC_new, hK_new, hN_new, hI_new, hR_new, rf_some, rf_none, ex_ref, ex_null, ex_rf, nref_null, rf_null, Nat.reduceEqDiff, reduceCtorEq, false_and, and_false, if_false, if_true, ne_eq, kO_150, kO_151, kO_152, kO_170, kO_180, kO_190, Value.ref.injEq, exists_eq_left', false_or, r1, r2, r4, r5, r6, k1, k2, k3, k4, k7, k8, k9, eN, eB, eP, eL, eQ, eR, hge, hcl, ltI (show i < 1000 by omega) (show pnN h' (dR h' 448 r) < 1000 by omega)]
        refine ⟨fun e => ?_, fun e => ⟨fun el => ?_, fun el => ?_⟩⟩
        · obtain rfl : n = 0 := by omega
          refine ⟨fun em => ?_, fun em => ?_⟩
          · have := hg (fun z => em (hm z))
            rw [gutL, if_neg em] at this
            rw [← this] at hp; exact hp
          · by_cases z : l = -1
            · rw [show gutH h' r s c l = -1 from if_pos z] at hp; exact hp
            · have := hg z
              rw [gutL, if_pos em] at this
              rw [← this] at hp; exact hp
        · exact ⟨fun em => absurd (hm el) em, fun _ => by rw [show gutH h' r s c l = -1 from if_pos el] at hp; exact hp⟩
        · obtain ⟨q1, q2, q3⟩ := k6 i e
          have q0 := q1.1
          have q4 := q2.1
          have q5 := q2.2
          rw [eQ] at q4 q5
          have eBg : (if c = 0 then hI h' 192 (pb h' (dR h' 448 r) i) 0 else hI h' 193 (pb h' (dR h' 448 r) i) 0) = pBeg h' (dR h' 448 r) c i := (if_pos e).symm
          have eEn : (if c = 0 then hI h' 192 (pb h' (dR h' 448 r) i) 0 + hI h' 194 (pb h' (dR h' 448 r) i) 0 else hI h' 193 (pb h' (dR h' 448 r) i) 0 + hI h' 195 (pb h' (dR h' 448 r) i) 0) = pEnd h' (dR h' 448 r) c i := (if_pos e).symm
          simp only [wp_X5_gutterAt_0, wp_X5_gutterAt_101, wp_X5_gutterAt_99, wp_X5_gutterAt_121, wp_X5_gutterAt_107, wp_X5_gutterAt_6, T_Jx4a65c_size_8abf5, T_Jx4a65c_get_915e3, T_X1_beginFor, T_X8_isIn, T_X1_endFor, i_mmax, i_mmin, i_pushI, i_pushN, i_pushL, i_iload, i_aload, i_istore, i_astore, i_iinc, i_iadd, i_isub, i_imul, i_iand, i_ior, i_ixor, i_ishl, i_ishr, i_iushr, i_idiv, i_i2l, i_lcmp, i_dup, i_pop, i_dupx1, i_dup2, i_ifeq, i_ifne, i_iflt, i_ifge, i_ifgt, i_ifle, i_iceq, i_icne, i_iclt, i_icge, i_icgt, i_icle, i_ifnull, i_aceq, i_getI, i_getR, i_putI, i_putZ, i_putR, i_new, i_newarr, i_ald, i_lald, i_aald, i_alen, i_ast, i_zast, i_last, i_aast, i_aastL, i_cast, i_gste, i_ldcM, i_getC, i_acopy, i_dead, i_objinit, i_callV, i_callS, i_callI, i_iret, i_zret, i_aret, i_vret, i_throw, popN, pushO, lget, lset, isRf_ref, isRf_null, isRf_rf, isC1_int, isC1_ref, isC1_null, isC1_rf, true_and, and_true, List.length_cons, List.length_nil, Nat.reduceAdd, Nat.reduceLeDiff, hK_sI, hN_sI, hR_sI, hI_sI, hK_sR, hN_sR, hR_sR, hI_sR, kC_2, kC_3, kC_4, kC_5, kC_6, kC_7, kC_8, kC_9, kC_10, kC_11, kC_20, kC_21, kC_22, kC_23, i2_0, i1_1, i0_1, i1_0, bI_and, bI_0, Decidable.not_not, not_false_eq_true, not_true_eq_false, forall_const, false_implies, true_implies, hK_copy, hN_copy, hI_copy, hC_sI, hC_sR, hC_new, hK_new, hN_new, hI_new, hR_new, rf_some, rf_none, ex_ref, ex_null, ex_rf, nref_null, rf_null, Nat.reduceEqDiff, reduceCtorEq, false_and, and_false, if_false, if_true, ne_eq, kO_150, kO_151, kO_152, kO_170, kO_180, kO_190, Value.ref.injEq, exists_eq_left', false_or, q0, q4, q5, e, eBg, eEn]
          obtain ⟨k, rfl⟩ : ∃ k, n = k + 1 := ⟨n - 1, by omega⟩
          have hg' := hg el
          rw [gutL] at hg'
          refine ⟨nI_pos (by omega), fun e3 => ?_, fun e3 => ⟨fun e4 => ?_, fun e4 => ⟨fun e5 => ⟨fun e6 => ?_, fun e6 => ?_⟩, fun e5 => ?_⟩⟩⟩
          · rw [if_neg (fun z => e3 z.1)] at hg'
            exact ⟨k, by omega, i + 1, m, _, _, by omega, by rw [nI_1], fun z => absurd z el, fun _ => hg'⟩
          · rw [if_neg (fun z => absurd z.2 (Int32.not_lt.mpr e4))] at hg'
            exact ⟨k, by omega, i + 1, m, _, _, by omega, by rw [nI_1], fun z => absurd z el, fun _ => hg'⟩
          · rw [if_pos ⟨e3, Int32.not_le.mp e4⟩, if_neg (Int32.not_lt.mpr e5), if_neg e6] at hg'
            exact ⟨k, by omega, i + 1, _, _, _, by omega, by rw [nI_1], fun z => absurd z el, fun _ => hg'⟩
          · rw [if_pos ⟨e3, Int32.not_le.mp e4⟩, if_neg (Int32.not_lt.mpr e5), if_pos e6] at hg'
            exact ⟨k, by omega, i + 1, _, _, _, by omega, by rw [nI_1], fun z => absurd z el, fun _ => hg'⟩
          · rw [if_pos ⟨e3, Int32.not_le.mp e4⟩, if_pos (Int32.not_le.mp e5)] at hg'
            rw [← hg'] at hp; exact hp)
      refine ⟨_, go_X5_gutterAt_0 hz hr hloop, ?_⟩
      show wp_X5_gutterAt_0 P X _ [some (.ref r), some (.int s), some (.int c), some (.int l), none, none, none, none] [] h
      simp only [wp_X5_gutterAt_0, wp_X5_gutterAt_101, wp_X5_gutterAt_99, wp_X5_gutterAt_121, wp_X5_gutterAt_107, wp_X5_gutterAt_6, T_Jx4a65c_size_8abf5, T_Jx4a65c_get_915e3, T_X1_beginFor, T_X8_isIn, T_X1_endFor, i_mmax, i_mmin, i_pushI, i_pushN, i_pushL, i_iload, i_aload, i_istore, i_astore, i_iinc, i_iadd, i_isub, i_imul, i_iand, i_ior, i_ixor, i_ishl, i_ishr, i_iushr, i_idiv, i_i2l, i_lcmp, i_dup, i_pop, i_dupx1, i_dup2, i_ifeq, i_ifne, i_iflt, i_ifge, i_ifgt, i_ifle, i_iceq, i_icne, i_iclt, i_icge, i_icgt, i_icle, i_ifnull, i_aceq, i_getI, i_getR, i_putI, i_putZ, i_putR, i_new, i_newarr, i_ald, i_lald, i_aald, i_alen, i_ast, i_zast, i_last, i_aast, i_aastL, i_cast, i_gste, i_ldcM, i_getC, i_acopy, i_dead, i_objinit, i_callV, i_callS, i_callI, i_iret, i_zret, i_aret, i_vret, i_throw, popN, pushO, lget, lset, isRf_ref, isRf_null, isRf_rf, isC1_int, isC1_ref, isC1_null, isC1_rf, true_and, and_true, List.length_cons, List.length_nil, Nat.reduceAdd, Nat.reduceLeDiff, hK_sI, hN_sI, hR_sI, hI_sI, hK_sR, hN_sR, hR_sR, hI_sR, kC_2, kC_3, kC_4, kC_5, kC_6, kC_7, kC_8, kC_9, kC_10, kC_11, kC_20, kC_21, kC_22, kC_23, i2_0, i1_1, i0_1, i1_0, bI_and, bI_0, Decidable.not_not, not_false_eq_true, not_true_eq_false, forall_const, false_implies, true_implies, hK_copy, hN_copy, hI_copy, hC_sI, hC_sR, hC_new, hK_new, hN_new, hI_new, hR_new, rf_some, rf_none, ex_ref, ex_null, ex_rf, nref_null, rf_null, Nat.reduceEqDiff, reduceCtorEq, false_and, and_false, if_false, if_true, ne_eq, kO_150, kO_151, kO_152, kO_170, kO_180, kO_190, Value.ref.injEq, exists_eq_left', false_or]
      exact ⟨pnN h (dR h 448 r), 0, -1, none, none, by omega, rfl, fun _ => rfl, fun e => (if_neg e).symm⟩
    · exact hT.elim
  · unfold T_X5_gutterAt at hT
    split at hT
    · exact ⟨Nat.le_of_ble_eq_true rfl, by simp [isC1_int, isC1_ref, isC1_null, isC1_rf]⟩
    · exact hT.elim
