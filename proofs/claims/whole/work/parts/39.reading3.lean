def ordI (L : List Nat) (i : Nat) : Int32 := match L[i]? with
  | some k => nI k
  | none => -1
/-- a heap whose reading r, with the row o, holds L so far -/
def hrd (h : hp_T) (r o : Nat) (L : List Nat) (d : Int32) : hp_T := (h.1, h.2.1, fun g b i => if g = 451 ∧ b = r ∧ i = 0 then nI L.length else if g = 452 ∧ b = r ∧ i = 0 then d else if g = 150 ∧ b = o ∧ i < 8 then ordI L i else h.2.2.1 g b i, h.2.2.2.1, h.2.2.2.2)
theorem hK_rd (h : hp_T) (r o : Nat) (L : List Nat) (d : Int32) (b : Nat) : hK (hrd h r o L d) b = hK h b := rfl
theorem hN_rd (h : hp_T) (r o : Nat) (L : List Nat) (d : Int32) (b : Nat) : hN (hrd h r o L d) b = hN h b := rfl
theorem hR_rd (h : hp_T) (r o : Nat) (L : List Nat) (d : Int32) (g b i : Nat) : hR (hrd h r o L d) g b i = hR h g b i := rfl
theorem hC_rd (h : hp_T) (r o : Nat) (L : List Nat) (d : Int32) (i : Nat) : hC (hrd h r o L d) i = hC h i := rfl
theorem dR_rd (h : hp_T) (r o : Nat) (L : List Nat) (d : Int32) (f a : Nat) : dR (hrd h r o L d) f a = dR h f a := rfl
theorem hI_rd (h : hp_T) (r o : Nat) (L : List Nat) (d : Int32) (g b i : Nat) : hI (hrd h r o L d) g b i = if g = 451 ∧ b = r ∧ i = 0 then nI L.length else if g = 452 ∧ b = r ∧ i = 0 then d else if g = 150 ∧ b = o ∧ i < 8 then ordI L i else hI h g b i := rfl
theorem hI_rd0 (h : hp_T) (r o : Nat) (L : List Nat) (d : Int32) {g b i : Nat} (h1 : g ≠ 451) (h2 : g ≠ 452) (h3 : g ≠ 150) : hI (hrd h r o L d) g b i = hI h g b i := by
  rw [hI_rd, if_neg (fun z => h1 z.1), if_neg (fun z => h2 z.1), if_neg (fun z => h3 z.1)]
theorem hrd_take (h : hp_T) (r o : Nat) (L : List Nat) (d : Int32) (i : Nat) (hl : L.length < 8) : hsI (hsI (hrd h r o L d) 150 o L.length (nI i)) 451 r 0 (nI (L.length + 1)) = hrd h r o (L ++ [i]) d := by
  unfold hrd hsI
  refine Prod.ext rfl (Prod.ext rfl (Prod.ext ?_ rfl))
  funext g b j
  dsimp only
  by_cases c1 : g = 451 ∧ b = r ∧ j = 0
  · rw [if_pos c1, if_pos c1, List.length_append]; rfl
  · rw [if_neg c1, if_neg c1, if_neg c1]
    by_cases c2 : g = 150 ∧ b = o ∧ j = L.length
    · have n2 : ¬ (g = 452 ∧ b = r ∧ j = 0) := fun z => by omega
      rw [if_pos c2, if_neg n2, if_pos ⟨c2.1, c2.2.1, by omega⟩]
      unfold ordI
      rw [c2.2.2, List.getElem?_append_right (Nat.le_refl _), Nat.sub_self]; rfl
    · rw [if_neg c2]
      by_cases c3 : g = 452 ∧ b = r ∧ j = 0
      · rw [if_pos c3, if_pos c3]
      · rw [if_neg c3, if_neg c3]
        by_cases c4 : g = 150 ∧ b = o ∧ j < 8
        · rw [if_pos c4, if_pos c4]
          unfold ordI
          by_cases c5 : j < L.length
          · rw [List.getElem?_append_left c5]
          · have : ¬ j = L.length := fun z => c2 ⟨c4.1, c4.2.1, z⟩
            rw [List.getElem?_eq_none (by omega), List.getElem?_eq_none (by rw [List.length_append]; simp; omega)]
        · rw [if_neg c4, if_neg c4]
theorem hrd_doubt (h : hp_T) (r o : Nat) (L : List Nat) (d x : Int32) : hsI (hrd h r o L d) 452 r 0 x = hrd h r o L x := by
  unfold hrd hsI
  refine Prod.ext rfl (Prod.ext rfl (Prod.ext ?_ rfl))
  funext g b j
  dsimp only
  by_cases c1 : g = 451 ∧ b = r ∧ j = 0
  · rw [if_neg (by omega), if_pos c1, if_pos c1]
  · by_cases c2 : g = 452 ∧ b = r ∧ j = 0
    · rw [if_pos c2, if_neg c1, if_pos c2]
    · rw [if_neg c2, if_neg c1, if_neg c2, if_neg c1, if_neg c2]
theorem rd_same {h : hp_T} {r : Nat} (k : rdOK h r) (L : List Nat) (d : Int32) : rdOK (hrd h r (dR h 450 r) L d) r ∧ pnN (hrd h r (dR h 450 r) L d) (dR h 448 r) = pnN h (dR h 448 r) ∧ (∀ c, pBeg (hrd h r (dR h 450 r) L d) (dR h 448 r) c = pBeg h (dR h 448 r) c) ∧ (∀ c, pEnd (hrd h r (dR h 450 r) L d) (dR h 448 r) c = pEnd h (dR h 448 r) c) ∧ Exl h (hrd h r (dR h 450 r) L d) := by
  obtain ⟨⟨r1, r2, r3⟩, ⟨r4, r5, r6⟩, kA⟩ := k
  have eL : Exl h (hrd h r (dR h 450 r) L d) := by
    refine ⟨fun b hb => ⟨rfl, rfl, fun g i => ⟨?_, rfl⟩⟩, fun _ _ => rfl, fun _ => rfl⟩
    have n1 : ¬ b = r := fun z => by rw [z, r1] at hb; cases hb
    have n2 : ¬ b = dR h 450 r := fun z => by rw [z, r5] at hb; cases hb
    rw [hI_rd, if_neg (fun z => n1 z.2.1), if_neg (fun z => n1 z.2.1), if_neg (fun z => n2 z.2.1)]
  refine ⟨⟨⟨r1, r2, ?_⟩, ⟨r4, r5, r6⟩, (kA.exl eL).1⟩, (kA.exl eL).2.1, fun c => ?_, fun c => ?_, eL⟩
  · rw [hI_rd0 _ _ _ _ _ (by decide) (by decide) (by decide)]; exact r3
  · funext j
    unfold pBeg
    rw [show pnN (hrd h r (dR h 450 r) L d) (dR h 448 r) = pnN h (dR h 448 r) from (kA.exl eL).2.1, hI_rd0 _ _ _ _ _ (by decide) (by decide) (by decide), hI_rd0 _ _ _ _ _ (by decide) (by decide) (by decide)]
    rfl
  · funext j
    unfold pEnd
    rw [show pnN (hrd h r (dR h 450 r) L d) (dR h 448 r) = pnN h (dR h 448 r) from (kA.exl eL).2.1, hI_rd0 _ _ _ _ _ (by decide) (by decide) (by decide), hI_rd0 _ _ _ _ _ (by decide) (by decide) (by decide), hI_rd0 _ _ _ _ _ (by decide) (by decide) (by decide), hI_rd0 _ _ _ _ _ (by decide) (by decide) (by decide)]
    rfl
def tbnL (s : Int32) : Nat → Nat → List Nat → List Nat
  | 0, _, L => L
  | k + 1, i, L => if (s >>> (nI i &&& 31)) &&& 1 = 1 ∧ L.length < 8 then tbnL s k (i + 1) (L ++ [i]) else tbnL s k (i + 1) L
theorem tbnL_len {s : Int32} : ∀ k i L, L.length ≤ 8 → (tbnL s k i L).length ≤ 8
  | 0, _, L, h => h
  | k + 1, i, L, h => by
    rw [tbnL]
    split
    · next c => exact tbnL_len k (i + 1) _ (by rw [List.length_append]; simp; omega)
    · exact tbnL_len k (i + 1) L h
def wp_X5_takeByNumber_0 (P : Option Value → hp_T → Prop) (X : String → hp_T → Prop) (K2 : KT) : KT :=
  i_pushI 0 (i_istore 2 K2)
set_option maxRecDepth 20000 in
theorem go_X5_takeByNumber_0 {z : zT} {P : Option Value → hp_T → Prop} {X : String → hp_T → Prop} {K2 : KT} (hz : Cx z cX5_takeByNumber 3 "Panelry$Reading" "takeByNumber" 1 0 0) (hr : Rt z none P X 0 0) (h2 : Go z 0 0 2 K2) : Go z 0 0 0 (wp_X5_takeByNumber_0 P X K2) := 
  s_iconst hz rfl dX5_takeByNumber_0 (s_istore_n hz rfl rfl dX5_takeByNumber_1 h2)
def wp_X5_takeByNumber_56 (P : Option Value → hp_T → Prop) (X : String → hp_T → Prop) (K2 : KT) : KT :=
  i_iinc 2 1 K2
set_option maxRecDepth 20000 in
theorem go_X5_takeByNumber_56 {z : zT} {P : Option Value → hp_T → Prop} {X : String → hp_T → Prop} {K2 : KT} (hz : Cx z cX5_takeByNumber 3 "Panelry$Reading" "takeByNumber" 1 0 0) (hr : Rt z none P X 0 0) (h2 : Go z 0 0 2 K2) : Go z 0 0 56 (wp_X5_takeByNumber_56 P X K2) := 
  s_iinc hz rfl rfl dX5_takeByNumber_56 (s_goto hz (tgt := 2) rfl dX5_takeByNumber_59 h2)
def wp_X5_takeByNumber_2 (P : Option Value → hp_T → Prop) (X : String → hp_T → Prop) (K2 : KT) : KT :=
  i_iload 2 (i_aload 0 (i_getR 7 448 (i_getR 5 320 (i_callV 0 1 T_Jx4a65c_size_8abf5 noX (i_icge (i_vret P) (i_iload 1 (i_iload 2 (i_callS 2 T_X8_isIn noX (i_ifeq (wp_X5_takeByNumber_56 P X K2)
    (i_aload 0 (i_getI 7 451 (i_aload 0 (i_getR 7 450 (i_alen (i_icge (wp_X5_takeByNumber_56 P X K2) (i_aload 0 (i_getR 7 450 (i_aload 0 (i_getI 7 451 (i_iload 2 (i_ast 150 (i_aload 0 (i_dup
    (i_getI 7 451 (i_pushI 1 (i_iadd (i_putI 7 451 (wp_X5_takeByNumber_56 P X K2))))))))))))))))))))))))))))
set_option maxRecDepth 20000 in
theorem go_X5_takeByNumber_2 {z : zT} {P : Option Value → hp_T → Prop} {X : String → hp_T → Prop} {K2 : KT} (hz : Cx z cX5_takeByNumber 3 "Panelry$Reading" "takeByNumber" 1 0 0) (hr : Rt z none P X 0 0) (h2 : Go z 0 0 2 K2) : Go z 0 0 2 (wp_X5_takeByNumber_2 P X K2) := 
  s_iload_n hz rfl dX5_takeByNumber_2 (s_aload_n hz rfl dX5_takeByNumber_3 (fg_RX5_15 hz dX5_takeByNumber_4 (fg_RX5_77 hz dX5_takeByNumber_7 (s_callV hz ct_Jx4a65c_size_8abf5 ⟨w182, w115, w32, by decide, by decide, by decide +kernel⟩ w113 w114 cls0 rfl rfl rfl rfl rfl rfl out_no dX5_takeByNumber_10
    (s_icge hz (tgt := 62) rfl dX5_takeByNumber_13 (s_vret hz hr rfl rfl dX5_takeByNumber_62) (s_iload_n hz rfl dX5_takeByNumber_16 (s_iload_n hz rfl dX5_takeByNumber_17 (s_callSN (host := "Panelry") hz ct_X8_isIn
    (Or.inr rfl) ⟨w185, w29, by decide, by decide, by decide +kernel⟩ w184 rfl rfl rfl rfl out_no dX5_takeByNumber_18 (s_ifeq hz (tgt := 56) rfl dX5_takeByNumber_21 (go_X5_takeByNumber_56 hz hr h2)
    (s_aload_n hz rfl dX5_takeByNumber_24 (fg_RX5_42 hz dX5_takeByNumber_25 (s_aload_n hz rfl dX5_takeByNumber_28 (fg_RX5_9 hz dX5_takeByNumber_29 (s_alen hz dX5_takeByNumber_32 (s_icge hz
    (tgt := 56) rfl dX5_takeByNumber_33 (go_X5_takeByNumber_56 hz hr h2) (s_aload_n hz rfl dX5_takeByNumber_36 (fg_RX5_9 hz dX5_takeByNumber_37 (s_aload_n hz rfl dX5_takeByNumber_40 (fg_RX5_42 hz dX5_takeByNumber_41
    (s_iload_n hz rfl dX5_takeByNumber_44 (s_iast hz rfl rfl rfl rfl dX5_takeByNumber_45 (s_aload_n hz rfl dX5_takeByNumber_46 (s_dup hz dX5_takeByNumber_47 (fg_RX5_42 hz dX5_takeByNumber_48
    (s_iconst hz rfl dX5_takeByNumber_51 (s_iadd hz dX5_takeByNumber_52 (fp_RX5_42 hz dX5_takeByNumber_53 (go_X5_takeByNumber_56 hz hr h2))))))))))))))))))))))))))))

def T_X5_takeByNumber : PT := fun av h P X => match av with
  | [.ref r, .int s] => (True) ∧ (∃ h0 L d, h = hrd h0 r (dR h0 450 r) L d ∧ rdOK h0 r ∧ L.length ≤ 8 ∧ P none (hrd h0 r (dR h0 450 r) (tbnL s (pnN h0 (dR h0 448 r)) 0 L) d))
  | _ => False
set_option maxRecDepth 20000 in
theorem ct_X5_takeByNumber : CT yX5_takeByNumber cX5_takeByNumber 3 none 1 0 0 T_X5_takeByNumber := by
  refine ct_ofE (by decide) (fun z av h P X hT hz hr => ?_) (fun av h P X hT => ?_)
  · unfold T_X5_takeByNumber at hT
    split at hT
    · rename_i r s
      obtain ⟨hk, hp⟩ := hT
      obtain ⟨h0, L0, d, hh, hk, hL0, hp⟩ := hp
      obtain ⟨⟨r1, r2, r3⟩, ⟨r4, r5, r6⟩, kA⟩ := id hk
      obtain ⟨k1, ⟨k2, k3, k4, k5, k6⟩, ⟨k7, k8, k9, k10, k11⟩, k12, k13⟩ := id kA
      have eN : lsz h0 (dR h0 320 (dR h0 448 r)) = pnN h0 (dR h0 448 r) := rfl
      have eB : lsz h0 (dR h0 321 (dR h0 448 r)) = blN h0 (dR h0 448 r) := rfl
      have eP : ∀ j, lel h0 (dR h0 320 (dR h0 448 r)) j = pn h0 (dR h0 448 r) j := fun _ => rfl
      have eL : ∀ j, lel h0 (dR h0 321 (dR h0 448 r)) j = bl h0 (dR h0 448 r) j := fun _ => rfl
      have eQ : ∀ j, dR h0 384 (pn h0 (dR h0 448 r) j) = pb h0 (dR h0 448 r) j := fun _ => rfl
      have eR : ∀ j, dR h0 131 (bl h0 (dR h0 448 r) j) = bb h0 (dR h0 448 r) j := fun _ => rfl
      have hloop := Go.loop (z := z) (cells := 0) (slots := 0) (pc := 2) (fun n ls st h' => ∃ i L, i + n = pnN h0 (dR h0 448 r) ∧ ls = [some (.ref r), some (.int s), some (.int (nI i))] ∧ st = [] ∧ h' = hrd h0 r (dR h0 450 r) L d ∧ L.length ≤ 8 ∧ tbnL s n i L = tbnL s (pnN h0 (dR h0 448 r)) 0 L0) (fun k => wp_X5_takeByNumber_2 P X k) (fun k hgo => go_X5_takeByNumber_2 hz hr hgo) (by
        rintro n ls st h' ⟨i, L, hi, rfl, rfl, rfl, hL, hg⟩
        have hge : (nI (pnN h0 (dR h0 448 r)) ≤ nI i) ↔ ¬ i < pnN h0 (dR h0 448 r) := by rw [leI (by omega) (by omega)]; omega
        obtain ⟨hk2, e1, e2, e3, e4⟩ := rd_same hk L d
        have kA2 := hk2.2.2
        have kl := kA2.2.1.2.2.1
        have es : lsz (hrd h0 r (dR h0 450 r) L d) (dR h0 320 (dR h0 448 r)) = pnN h0 (dR h0 448 r) := e1
        have eI : hI (hrd h0 r (dR h0 450 r) L d) 451 r 0 = nI L.length := by rw [hI_rd, if_pos ⟨rfl, rfl, rfl⟩]
        have kl2 : lOK (hrd h0 r (dR h0 450 r) L d) (dR h0 320 (dR h0 448 r)) := kl
        simp only [wp_X5_takeByNumber_0, wp_X5_takeByNumber_56, wp_X5_takeByNumber_2, T_Jx4a65c_size_8abf5, T_X8_isIn, i_mmax, i_mmin, i_pushI, i_pushN, i_pushL, i_iload, i_aload, i_istore, i_astore, i_iinc, i_iadd, i_isub, i_imul, i_iand, i_ior, i_ixor, i_ishl, i_ishr, i_iushr, i_idiv, i_i2l, i_lcmp, i_dup, i_pop, i_dupx1, i_dup2, i_ifeq, i_ifne, i_iflt, i_ifge, i_ifgt, i_ifle, i_iceq, i_icne, i_iclt, i_icge, i_icgt, i_icle, i_ifnull, i_aceq, i_getI, i_getR, i_putI, i_putZ, i_putR, i_new, i_newarr, i_ald, i_lald, i_aald, i_alen, i_ast, i_zast, i_last, i_aast, i_aastL, i_cast, i_gste, i_ldcM, i_getC, i_acopy, i_dead, i_objinit, i_callV, i_callS, i_callI, i_iret, i_zret, i_aret, i_vret, i_throw, popN, pushO, lget, lset, isRf_ref, isRf_null, isRf_rf, isC1_int, isC1_ref, isC1_null, isC1_rf, true_and, and_true, List.length_cons, List.length_nil, Nat.reduceAdd, Nat.reduceLeDiff, hK_sI, hN_sI, hR_sI, hI_sI, hK_sR, hN_sR, hR_sR, hI_sR, kC_2, kC_3, kC_4, kC_5, kC_6, kC_7, kC_8, kC_9, kC_10, kC_11, kC_20, kC_21, kC_22, kC_23, i2_0, i1_1, i0_1, i1_0, bI_and, bI_0, Decidable.not_not, not_false_eq_true, not_true_eq_false, forall_const, false_implies, true_implies, hK_copy, hN_copy, hI_copy, hC_sI, hC_sR, hC_new, hK_new, hN_new, hI_new, hR_new, rf_some, rf_none, ex_ref, ex_null, ex_rf, nref_null, rf_null, Nat.reduceEqDiff, reduceCtorEq, false_and, and_false, if_false, if_true, ne_eq, kO_150, kO_151, kO_152, kO_170, kO_180, kO_190, Value.ref.injEq, exists_eq_left', false_or, r1, r2, r4, r5, r6, k1, k2, k3, k4, k7, k8, k9, eN, eB, eP, eL, eQ, eR, hge, hK_rd, hN_rd, hR_rd, es, kl2, eI, o8]
        refine ⟨fun e => ?_, fun e => ⟨fun e3 => ?_, fun e3 => ⟨fun e4 => ?_, fun e4 => ?_⟩⟩⟩
        · obtain rfl : n = 0 := by omega
          have hg2 : L = tbnL s (pnN h0 (dR h0 448 r)) 0 L0 := hg
          rw [hg2]; exact hp
        · obtain ⟨k, rfl⟩ : ∃ k, n = k + 1 := ⟨n - 1, by omega⟩
          rw [tbnL, if_neg (fun z => e3 z.1)] at hg
          exact ⟨k, by omega, i + 1, L, by omega, by rw [nI_1], rfl, hL, hg⟩
        · obtain ⟨k, rfl⟩ : ∃ k, n = k + 1 := ⟨n - 1, by omega⟩
          have z8 : ¬ L.length < 8 := fun z => absurd e4 (Int32.not_le.mpr ((ltI (a := L.length) (b := 8) (by omega) (by omega)).mpr z))
          rw [tbnL, if_neg (fun z => z8 z.2)] at hg
          exact ⟨k, by omega, i + 1, L, by omega, by rw [nI_1], rfl, hL, hg⟩
        · obtain ⟨k, rfl⟩ : ∃ k, n = k + 1 := ⟨n - 1, by omega⟩
          have z8 : L.length < 8 := Nat.lt_of_not_le (fun z => e4 ((leI (a := 8) (b := L.length) (by omega) (by omega)).mpr z))
          rw [tbnL, if_pos ⟨e3, z8⟩] at hg
          refine ⟨vp_in_nI z8 (by omega), k, by omega, i + 1, L ++ [i], by omega, by rw [nI_1], ?_, by rw [List.length_append]; simp; omega, hg⟩
          rw [nI_clamp (by omega), nI_1, hrd_take _ _ _ _ _ _ z8])
      refine ⟨_, go_X5_takeByNumber_0 hz hr hloop, ?_⟩
      show wp_X5_takeByNumber_0 P X _ [some (.ref r), some (.int s), none] [] h
      subst hh
      simp only [wp_X5_takeByNumber_0, wp_X5_takeByNumber_56, wp_X5_takeByNumber_2, T_Jx4a65c_size_8abf5, T_X8_isIn, i_mmax, i_mmin, i_pushI, i_pushN, i_pushL, i_iload, i_aload, i_istore, i_astore, i_iinc, i_iadd, i_isub, i_imul, i_iand, i_ior, i_ixor, i_ishl, i_ishr, i_iushr, i_idiv, i_i2l, i_lcmp, i_dup, i_pop, i_dupx1, i_dup2, i_ifeq, i_ifne, i_iflt, i_ifge, i_ifgt, i_ifle, i_iceq, i_icne, i_iclt, i_icge, i_icgt, i_icle, i_ifnull, i_aceq, i_getI, i_getR, i_putI, i_putZ, i_putR, i_new, i_newarr, i_ald, i_lald, i_aald, i_alen, i_ast, i_zast, i_last, i_aast, i_aastL, i_cast, i_gste, i_ldcM, i_getC, i_acopy, i_dead, i_objinit, i_callV, i_callS, i_callI, i_iret, i_zret, i_aret, i_vret, i_throw, popN, pushO, lget, lset, isRf_ref, isRf_null, isRf_rf, isC1_int, isC1_ref, isC1_null, isC1_rf, true_and, and_true, List.length_cons, List.length_nil, Nat.reduceAdd, Nat.reduceLeDiff, hK_sI, hN_sI, hR_sI, hI_sI, hK_sR, hN_sR, hR_sR, hI_sR, kC_2, kC_3, kC_4, kC_5, kC_6, kC_7, kC_8, kC_9, kC_10, kC_11, kC_20, kC_21, kC_22, kC_23, i2_0, i1_1, i0_1, i1_0, bI_and, bI_0, Decidable.not_not, not_false_eq_true, not_true_eq_false, forall_const, false_implies, true_implies, hK_copy, hN_copy, hI_copy, hC_sI, hC_sR, hC_new, hK_new, hN_new, hI_new, hR_new, rf_some, rf_none, ex_ref, ex_null, ex_rf, nref_null, rf_null, Nat.reduceEqDiff, reduceCtorEq, false_and, and_false, if_false, if_true, ne_eq, kO_150, kO_151, kO_152, kO_170, kO_180, kO_190, Value.ref.injEq, exists_eq_left', false_or]
      exact ⟨pnN h0 (dR h0 448 r), 0, L0, by omega, rfl, rfl, hL0, rfl⟩
    · exact hT.elim
  · unfold T_X5_takeByNumber at hT
    split at hT
    · exact ⟨Nat.le_of_ble_eq_true rfl, by simp [isC1_int, isC1_ref, isC1_null, isC1_rf]⟩
    · exact hT.elim
