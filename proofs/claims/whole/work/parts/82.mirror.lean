theorem sub_2 (a b c : Int32) : a - (b + c) = a - b - c := by grind
theorem mrS_0 {σ : sg_T} (hW : WF σ) (n8 : sN σ < 8) (p : Nat) : sN (mrS σ p) = sN σ + 1 := by
  unfold sN mrS mrA mrB
  rw [if_neg (by omega), if_neg (by omega), if_neg (by omega), su_at, if_neg (by omega), su_at, if_neg (by omega), su_at, if_pos ⟨rfl, rfl⟩]
  exact cl_nI (by have : (σ 0 0).toNatClampNeg < 8 := n8; show (σ 0 0).toNatClampNeg + 1 < 1000; omega)
/-- away from the new page -/
theorem mrS_x (σ : sg_T) (p k i : Nat) (h : ¬ (k = 0 ∧ i = 0) ∧ ¬ (1 ≤ k ∧ k ≤ 5 ∧ ¬ k = 4 ∧ i = sN σ) ∧ ¬ (9 ≤ k ∧ k ≤ 12 ∧ 8 * sN σ ≤ i ∧ i < 8 * sN σ + 8) ∧ ¬ (14 ≤ k ∧ k ≤ 18 ∧ 96 * sN σ ≤ i ∧ i < 96 * sN σ + 96) ∧ ¬ (19 ≤ k ∧ k ≤ 25 ∧ 20 * sN σ ≤ i ∧ i < 20 * sN σ + 20)) : mrS σ p k i = σ k i := by
  unfold mrS mrA mrB
  rw [if_neg (by omega), if_neg (by omega), if_neg (by omega), su_at, if_neg (by omega), su_at, if_neg (by omega), su_at, if_neg (by omega), su_at, if_neg (by omega), su_at, if_neg (by omega)]
theorem mrS_1 (σ : sg_T) (p : Nat) : mrS σ p 1 (sN σ) = bI (σ 1 p = 0) ∧ mrS σ p 2 (sN σ) = σ 2 p ∧ mrS σ p 3 (sN σ) = σ 3 p ∧ mrS σ p 5 (sN σ) = -1 := by
  unfold mrS mrA mrB
  refine ⟨?_, ?_, ?_, ?_⟩
  · rw [if_neg (by omega), if_neg (by omega), if_neg (by omega), su_at, if_neg (by omega), su_at, if_neg (by omega), su_at, if_neg (by omega), su_at, if_neg (by omega), su_at, if_pos ⟨rfl, rfl⟩]
  · rw [if_neg (by omega), if_neg (by omega), if_neg (by omega), su_at, if_neg (by omega), su_at, if_pos ⟨rfl, rfl⟩]
  · rw [if_neg (by omega), if_neg (by omega), if_neg (by omega), su_at, if_pos ⟨rfl, rfl⟩]
  · rw [if_neg (by omega), if_neg (by omega), if_neg (by omega), su_at, if_neg (by omega), su_at, if_neg (by omega), su_at, if_neg (by omega), su_at, if_pos ⟨rfl, rfl⟩]
theorem mrS_P (σ : sg_T) (p k j : Nat) (h : 9 ≤ k ∧ k ≤ 12 ∧ j < 8) : mrS σ p k (8 * sN σ + j) = mvP σ p k j := by
  unfold mrS mrA
  rw [if_pos (by omega), Nat.add_sub_cancel_left]
theorem mrS_F (σ : sg_T) (p k j g : Nat) (h : 14 ≤ k ∧ k ≤ 18 ∧ j < 8 ∧ g < 12) : mrS σ p k (12 * (8 * sN σ + j) + g) = mvF σ p k (12 * j + g) := by
  unfold mrS mrA
  rw [if_neg (by omega), if_pos (by omega), show 12 * (8 * sN σ + j) + g - 96 * sN σ = 12 * j + g by omega]
theorem mrS_B (σ : sg_T) (p k j : Nat) (h : 19 ≤ k ∧ k ≤ 25 ∧ j < 20) : mrS σ p k (20 * sN σ + j) = mvB σ p k j := by
  unfold mrS mrA
  rw [if_neg (by omega), if_neg (by omega), if_pos (by omega), Nat.add_sub_cancel_left]
/-- whose the new page's cells are -/
noncomputable def nuM (H : hp_T) (q n m t : Nat) : ow_T := fun b => (t, @dite _ (∃ j, j < n ∧ dR H 385 (lel H (dR H 320 q) j) = b) (Classical.propDecidable _) (fun e => Classical.choose e) (fun _ => @dite _ (∃ j, j < m ∧ lel H (dR H 321 q) j = b) (Classical.propDecidable _) (fun e => Classical.choose e) (fun _ => 0)))
theorem nuM_P {h0 H : hp_T} {q n m t : Nat} (i : pgInj h0 H q n m) {j : Nat} (hj : j < n) : nuM H q n m t (dR H 385 (lel H (dR H 320 q) j)) = (t, j) := by
  have e : ∃ j', j' < n ∧ dR H 385 (lel H (dR H 320 q) j') = dR H 385 (lel H (dR H 320 q) j) := ⟨j, hj, rfl⟩
  unfold nuM
  rw [dif_pos e]
  obtain ⟨c1, c2⟩ := Classical.choose_spec e
  generalize Classical.choose e = w at c1 c2 ⊢
  by_cases a : w < j
  · exact absurd c2 (i.1 w j a hj)
  · by_cases b : j < w
    · exact absurd c2.symm (i.1 j w b c1)
    · rw [show w = j by omega]
theorem nuM_B {h0 H : hp_T} {q n m t : Nat} (i : pgInj h0 H q n m) {j : Nat} (hj : j < m) (hk : ∀ j', j' < n → dR H 385 (lel H (dR H 320 q) j') ≠ lel H (dR H 321 q) j) : nuM H q n m t (lel H (dR H 321 q) j) = (t, j) := by
  have e0 : ¬ ∃ j', j' < n ∧ dR H 385 (lel H (dR H 320 q) j') = lel H (dR H 321 q) j := fun ⟨j', a, b⟩ => hk j' a b
  have e : ∃ j', j' < m ∧ lel H (dR H 321 q) j' = lel H (dR H 321 q) j := ⟨j, hj, rfl⟩
  unfold nuM
  rw [dif_neg e0, dif_pos e]
  obtain ⟨c1, c2⟩ := Classical.choose_spec e
  generalize Classical.choose e = w at c1 c2 ⊢
  by_cases a : w < j
  · exact absurd c2 (i.2.1 w j a hj)
  · by_cases b : j < w
    · exact absurd c2.symm (i.2.1 j w b c1)
    · rw [show w = j by omega]
theorem mirror_RC {h h1 h' : hp_T} {c q p : Nat} {σ : sg_T} (x : RC h c σ) (hW : WF σ) (n8 : sN σ < 8) (hp : p < sN σ) (E : Ext h h1) (N : pgMir h h1 (cg h c p) q (pN σ p) (bN σ p)) (I : pgInj h h1 q (pN σ p) (bN σ p)) (z : LAdd h1 h' (dR h 640 c) q) : RC h' c (mrS σ p) := by
  obtain ⟨t1, t2, t3, t4⟩ := wf_top hW n8
  obtain ⟨⟨n1, n2, n3, n4, n5⟩, ⟨n6, n7, ⟨n9, n10, n11, n12⟩, nP⟩, n13, n14, ⟨n15, n16, n17, n18⟩, nB⟩ := N
  obtain ⟨⟨v1, v2, v3, v4, v5, v6⟩, vP, vB⟩ := x.view hW hp
  have wp := hW.2.1 p (by omega)
  obtain ⟨m1, m2, m3, m5⟩ := mrS_1 σ p
  have eP : pN (mrS σ p) (sN σ) = pN σ p := by unfold pN; rw [m2]
  have eB : bN (mrS σ p) (sN σ) = bN σ p := by unfold bN; rw [m3]
  have w1 := wp.1.2
  have w2 := wp.2.1.2
  have k170 : ∀ j, j < pN σ p → hK h1 (dR h1 385 (lel h1 (dR h1 320 q) j)) = 170 := fun j hj => (nP j hj).1.1.2.2.1
  have k2 : ∀ j, j < bN σ p → hK h1 (lel h1 (dR h1 321 q) j) = 2 := fun j hj => (nB j hj).1.1
  refine x.addPg (ν := nuM h1 q (pN σ p) (bN σ p) (sN σ)) E z n8 ⟨n1, ⟨n9, fun w => ?_, fun j hj => ?_⟩, n15, fun w => ?_, fun j hj => ?_⟩ ⟨⟨⟨n2, rfl⟩, ?_, ?_, ?_⟩, ⟨n6, ⟨⟨n7, n10, by rw [eP]; exact n11, by omega⟩, fun j hj => ?_⟩, rfl, fun _ => rfl, fun j hj => ?_⟩, n13, ⟨⟨n14, n16, by rw [eB]; exact n17, by omega⟩, fun j hj => ?_⟩, rfl, fun _ => rfl, fun j hj => ?_⟩ (mrS_0 hW n8 p) ⟨mrS_x σ p _ _ (by omega), mrS_x σ p _ _ (by omega), mrS_x σ p _ _ (by omega), mrS_x σ p _ _ (by omega)⟩ (fun k a b j => mrS_x σ p _ _ (by omega)) (fun r hr => ⟨fun k a b => mrS_x σ p _ _ (by omega), fun k a b i hi => mrS_x σ p _ _ (by omega), fun k a b i hi g hg => mrS_x σ p _ _ (by omega), fun k a b i hi => mrS_x σ p _ _ (by omega)⟩)
  · rcases n12 with w2 | w2
    · rw [w2] at w; cases w
    · exact w2
  · exact (nP j (by rw [n11] at hj; exact hj)).2.2.1
  · rcases n18 with w2 | w2
    · rw [w2] at w; cases w
    · exact w2
  · exact I.2.2 j (by rw [n17] at hj; exact hj)
  · rw [n3, m1, v4]
  · rw [n4, mrS_x σ p 4 (sN σ) (by omega)]; exact t3.symm
  · rw [n5]; exact m5
  · have hj' : j < pN σ p := by omega
    obtain ⟨⟨a1, a2, a3⟩, a4, a5, a6, a7, a8⟩ := nP j hj'
    obtain ⟨⟨u1, u2, u3, u4⟩, ⟨u5, u6, u7, u8, u9, u10⟩, uF⟩ := vP j hj'
    have pj : dR h 384 (pn h (cg h c p) j) = dR h 384 (pn h (cg h c p) j) := rfl
    rw [u7, u8, u9, u10] at a6
    refine ⟨a1, ⟨a2.1, ?_⟩, fun g hg => ?_⟩
    · rw [mrS_P σ p 9 j (by omega), mrS_P σ p 10 j (by omega), mrS_P σ p 11 j (by omega), mrS_P σ p 12 j (by omega)]
      unfold mvP
      rw [if_pos rfl, if_neg (by omega), if_neg (by omega), if_neg (by omega), ← sub_2]
      exact a6
    · have F := uF g hg
      have eD : 12 * (8 * p + j) + g = 96 * p + (12 * j + g) := by omega
      rw [eD] at F
      have s14 := mrS_F σ p 14 j g (by omega)
      have s15 := mrS_F σ p 15 j g (by omega)
      have s16 := mrS_F σ p 16 j g (by omega)
      have s17 := mrS_F σ p 17 j g (by omega)
      have s18 := mrS_F σ p 18 j g (by omega)
      unfold mvF at s14 s15 s16 s17 s18
      rw [if_pos rfl] at s14
      rw [if_neg (by omega)] at s15 s16 s17 s18
      cases ho : pnFO h (pn h (cg h c p) j) g with
      | none =>
        rw [ho] at F
        rw [(a7 g hg).1 ho]
        exact s16.trans F
      | some d =>
        rw [ho] at F
        obtain ⟨d', b1, b2, b3, b4, b5⟩ := (a7 g hg).2 d ho
        obtain ⟨F1, F2, F3, ⟨F4, F5, F6, F7, F8⟩, F9⟩ := F
        rw [b1]
        rw [F5, F6, F7, F8] at b5
        refine ⟨b2, ?_, ?_, ?_, ?_⟩
        · rw [b3, s17]; exact F2
        · rw [b4, s18]; exact F3
        · rw [s14, s15, s16, ← sub_2]; exact b5
        · rw [s16]; exact F9
  · exact nuM_P I (by omega)
  · obtain ⟨a1, a2, a3, a4, a5⟩ := nB j (by omega)
    obtain ⟨⟨u1, u2⟩, u3, u4, u5, u6, u7, u8, u9, u10⟩ := vB j (by omega)
    rw [u7, u8, u9, u10] at a5
    refine ⟨⟨a1.1, a1.2.1⟩, ?_, ?_, ?_, ?_⟩
    · rw [a2, mrS_B σ p 19 j (by omega)]; unfold mvB; rw [if_neg (by omega)]; exact u3
    · rw [a3, mrS_B σ p 24 j (by omega)]; unfold mvB; rw [if_neg (by omega)]; exact u4
    · rw [a4, mrS_B σ p 25 j (by omega)]; unfold mvB; rw [if_neg (by omega)]; exact u5
    · rw [mrS_B σ p 20 j (by omega), mrS_B σ p 21 j (by omega), mrS_B σ p 22 j (by omega), mrS_B σ p 23 j (by omega)]
      unfold mvB
      rw [if_pos rfl, if_neg (by omega), if_neg (by omega), if_neg (by omega), ← sub_2]
      exact a5
  · exact nuM_B I (by omega) (fun j' hj' e => by have := k170 j' hj'; rw [e, k2 j (by omega)] at this; cases this)
def wp_X8_mirror_0 (P : Option Value → hp_T → Prop) (X : String → hp_T → Prop) : KT :=
  i_aload 0 (i_iload 1 (i_callV 1 10 T_X8_existingPage X (i_astore 2 (i_aload 0 (i_callV 0 10 T_X8_requireRoomForPage X (i_aload 0 (i_aload 2 (i_callV 0 5 T_X3_mirrored noX (i_callV 1 10 T_X8_addPage noX
    (i_iret P))))))))))
theorem wx_X8_mirror_0 (P : Option Value → hp_T → Prop) (X : String → hp_T → Prop) (ls : List (Option Value)) (st : List Value) (h : hp_T) : wp_X8_mirror_0 P X ls st h = (i_aload 0 (i_iload 1 (i_callV 1 10 T_X8_existingPage X (i_astore 2 (i_aload 0 (i_callV 0 10 T_X8_requireRoomForPage X (i_aload 0 (i_aload 2 (i_callV 0 5 T_X3_mirrored noX (i_callV 1 10 T_X8_addPage noX
    (i_iret P))))))))))) ls st h := rfl
set_option maxRecDepth 20000 in
theorem go_X8_mirror_0 {z : zT} {P : Option Value → hp_T → Prop} {X : String → hp_T → Prop} (hz : Cx z cX8_mirror 3 "Panelry" "mirror" 9 423 4912) (hr : Rt z (some .int) P X 423 4912) : Go z 0 0 0 (wp_X8_mirror_0 P X) := 
  s_aload_n hz rfl dX8_mirror_0 (s_iload_n hz rfl dX8_mirror_1 (s_callV hz ct_X8_existingPage ⟨w404, w407, w29, by decide, by decide, by decide +kernel⟩ w406 w11 cls9 rfl rfl rfl rfl rfl rfl
    (out_rt hz hr (Nat.le_of_ble_eq_true rfl) (Nat.le_of_ble_eq_true rfl)) dX8_mirror_2 (s_astore_n hz rfl rfl dX8_mirror_5 (s_aload_n hz rfl dX8_mirror_6 (s_callV hz ct_X8_requireRoomForPage ⟨w233, w236, w29, by decide, by decide, by decide +kernel⟩ w235 w5 cls9 rfl rfl rfl rfl rfl rfl
    (out_rt hz hr (Nat.le_of_ble_eq_true rfl) (Nat.le_of_ble_eq_true rfl)) dX8_mirror_7 (s_aload_n hz rfl dX8_mirror_10 (s_aload_n hz rfl dX8_mirror_11 (s_callV hz ct_X3_mirrored ⟨w584, w587, w38, by decide, by decide, by decide +kernel⟩ w585 w586 cls4 rfl rfl rfl rfl rfl rfl out_no dX8_mirror_12
    (s_callV hz ct_X8_addPage ⟨w332, w335, w29, by decide, by decide, by decide +kernel⟩ w334 w7 cls9 rfl rfl rfl rfl rfl rfl out_no dX8_mirror_15 (s_iret hz hr rfl rfl dX8_mirror_18))))))))))

def T_X8_mirror : PT := fun av h P X => match av with
  | [.ref c, .int v] => (True) ∧ (∃ σ, (RC h c σ ∧ WF σ) ∧ (¬ pgM σ v → (∀ h', CE h c σ h' → X "java/lang/IndexOutOfBoundsException" h')) ∧ (∀ p, p < sN σ → v = nI p → ¬ sN σ < 8 → (∀ h', CE h c σ h' → X "java/lang/IllegalStateException" h')) ∧ (∀ p, p < sN σ → v = nI p → sN σ < 8 → ∀ h', CE h c (mrS σ p) h' → P (some (.int (nI (sN σ)))) h'))
  | _ => False
theorem tx_X8_mirror (c : Nat) (v : Int32) (h : hp_T) (P : Option Value → hp_T → Prop) (X : String → hp_T → Prop) : T_X8_mirror [.ref c, .int v] h P X = ((True) ∧ (∃ σ, (RC h c σ ∧ WF σ) ∧ (¬ pgM σ v → (∀ h', CE h c σ h' → X "java/lang/IndexOutOfBoundsException" h')) ∧ (∀ p, p < sN σ → v = nI p → ¬ sN σ < 8 → (∀ h', CE h c σ h' → X "java/lang/IllegalStateException" h')) ∧ (∀ p, p < sN σ → v = nI p → sN σ < 8 → ∀ h', CE h c (mrS σ p) h' → P (some (.int (nI (sN σ)))) h'))) := rfl
set_option maxRecDepth 20000 in
theorem ct_X8_mirror : CT yX8_mirror cX8_mirror 3 (some .int) 9 423 4912 T_X8_mirror := by
  refine ct_ofE (by decide) (fun z av h P X hT hz hr => ?_) (fun av h P X hT => ?_)
  · unfold T_X8_mirror at hT
    split at hT
    · rename_i c v
      obtain ⟨hk, hp⟩ := hT
      obtain ⟨σ, ⟨hX, hW⟩, h1, h2, h3⟩ := hp
      have kc := hX.cp hW
      have hn := hX.n
      have hN := hW.1.1.2
      have k1 := hX.1.1
      have k2 := hX.1.2.1
      have k3 := hX.1.2.2
      refine ⟨_, go_X8_mirror_0 hz hr, ?_⟩
      show wp_X8_mirror_0 P X [some (.ref c), some (.int v), none] [] h
      simp (disch := omega) only [wx_X8_mirror_0, tx_X8_existingPage, aq_pushI, aq_pushN, aq_pushL, aq_iload0, ap_aload0r, ap_aload0n, ap_aload0o, aq_istore0, ap_astore0r, ap_astore0n, ap_astore0o, aq_iinc0, aq_iload1, ap_aload1r, ap_aload1n, ap_aload1o, aq_istore1, ap_astore1r, ap_astore1n, ap_astore1o, aq_iinc1, aq_iload2, ap_aload2r, ap_aload2n, ap_aload2o, aq_istore2, ap_astore2r, ap_astore2n, ap_astore2o, aq_iinc2, aq_iload3, ap_aload3r, ap_aload3n, ap_aload3o, aq_istore3, ap_astore3r, ap_astore3n, ap_astore3o, aq_iinc3, aq_iload4, ap_aload4r, ap_aload4n, ap_aload4o, aq_istore4, ap_astore4r, ap_astore4n, ap_astore4o, aq_iinc4, aq_iload5, ap_aload5r, ap_aload5n, ap_aload5o, aq_istore5, ap_astore5r, ap_astore5n, ap_astore5o, aq_iinc5, aq_iload6, ap_aload6r, ap_aload6n, ap_aload6o, aq_istore6, ap_astore6r, ap_astore6n, ap_astore6o, aq_iinc6, aq_iload7, ap_aload7r, ap_aload7n, ap_aload7o, aq_istore7, ap_astore7r, ap_astore7n, ap_astore7o, aq_iinc7, aq_iload8, ap_aload8r, ap_aload8n, ap_aload8o, aq_istore8, ap_astore8r, ap_astore8n, ap_astore8o, aq_iinc8, aq_iload9, ap_aload9r, ap_aload9n, ap_aload9o, aq_istore9, ap_astore9r, ap_astore9n, ap_astore9o, aq_iinc9, aq_iload10, ap_aload10r, ap_aload10n, ap_aload10o, aq_istore10, ap_astore10r, ap_astore10n, ap_astore10o, aq_iinc10, aq_iload11, ap_aload11r, ap_aload11n, ap_aload11o, aq_istore11, ap_astore11r, ap_astore11n, ap_astore11o, aq_iinc11, aq_iload12, ap_aload12r, ap_aload12n, ap_aload12o, aq_istore12, ap_astore12r, ap_astore12n, ap_astore12o, aq_iinc12, aq_iload13, ap_aload13r, ap_aload13n, ap_aload13o, aq_istore13, ap_astore13r, ap_astore13n, ap_astore13o, aq_iinc13, aq_iload14, ap_aload14r, ap_aload14n, ap_aload14o, aq_istore14, ap_astore14r, ap_astore14n, ap_astore14o, aq_iinc14, aq_iload15, ap_aload15r, ap_aload15n, ap_aload15o, aq_istore15, ap_astore15r, ap_astore15n, ap_astore15o, aq_iinc15, aq_iadd, aq_isub, aq_imul, aq_iand, aq_ior, aq_ixor, aq_ishl, aq_ishr, aq_iushr, aq_idiv, aq_i2l, aq_lcmp, aq_dup, aq_pop, aq_dupx1, aq_dup2, ap_ifeq, ap_ifne, ap_iflt, ap_ifge, ap_ifgt, ap_ifle, ap_iceq, ap_icne, ap_iclt, ap_icge, ap_icgt, ap_icle, ap_ifnullr, ap_ifnulln, ap_ifnullo, aq_getI, aq_getR, aq_putI, aq_putZ, ap_putRr, ap_putRn, ap_putRo, aq_new, aq_newarr, aq_ald, aq_lald, aq_aald, aq_alen, aq_ast, aq_zast, ap_last, aq_aast, ap_castr, aq_gste, aq_objinit, aq_mmax, aq_mmin, aq_dead, aq_iret, aq_zret, aq_aret, aq_vret, aq_throw, aq_callV0, aq_callI0, aq_callS0, aq_callV1, aq_callI1, aq_callS1, aq_callV2, aq_callI2, aq_callS2, aq_callV3, aq_callI3, aq_callS3, aq_callV4, aq_callI4, aq_callS4, aq_callV5, aq_callI5, aq_callS5, aq_callV6, aq_callI6, aq_callS6, aq_callV7, aq_callI7, aq_callS7, aq_callV8, aq_callI8, aq_callS8, aq_callV9, aq_callI9, aq_callS9, pushO, isRf_ref, isRf_null, isRf_rf, isC1_int, isC1_ref, isC1_null, isC1_rf, true_and, and_true, List.length_cons, List.length_nil, Nat.reduceAdd, Nat.reduceLeDiff, hK_sI, hN_sI, hR_sI, hI_sI, hK_sR, hN_sR, hR_sR, hI_sR, kC_2, kC_3, kC_4, kC_5, kC_6, kC_7, kC_8, kC_9, kC_10, kC_11, kC_20, kC_21, kC_22, kC_23, i2_0, i1_1, i0_1, i1_0, bI_and, bI_0, Decidable.not_not, not_false_eq_true, not_true_eq_false, forall_const, false_implies, true_implies, hK_copy, hN_copy, hI_copy, hC_sI, hC_sR, hC_new, hK_new, hN_new, hI_new, hR_new, rf_some, rf_none, ex_ref, ex_null, ex_rf, nref_null, rf_null, Nat.reduceEqDiff, reduceCtorEq, false_and, and_false, if_false, if_true, ne_eq, kO_150, kO_151, kO_152, kO_170, kO_180, kO_190, Value.ref.injEq, exists_eq_left', false_or, ↓reduceIte, and_self, not_true_eq_false, kc, hn, k1]
      refine ⟨fun e0 => ?_, fun e => h1 (fun z => e (by rw [← hn]; exact (hX.pgI hW).mpr z)) h (CE.rfl hX)⟩
      obtain ⟨p, hp, ev⟩ := (pgM_iff hW).mp ((hX.pgI hW).mp (by unfold isPg; rw [hn]; exact e0))
      subst ev
      have cl : (nI p).toNatClampNeg = p := cl_nI (by omega)
      have k := hX.view hW hp
      rw [cl]
      obtain ⟨⟨v1, v2, v3, v4, v5, v6⟩, vP, vB⟩ := id k
      have v7 := v1.1
      by_cases n8 : sN σ < 8
      · simp (disch := omega) only [tx_X8_existingPage, tx_X8_requireRoomForPage, tx_X3_mirrored, tx_X8_addPage, aq_pushI, aq_pushN, aq_pushL, aq_iload0, ap_aload0r, ap_aload0n, ap_aload0o, aq_istore0, ap_astore0r, ap_astore0n, ap_astore0o, aq_iinc0, aq_iload1, ap_aload1r, ap_aload1n, ap_aload1o, aq_istore1, ap_astore1r, ap_astore1n, ap_astore1o, aq_iinc1, aq_iload2, ap_aload2r, ap_aload2n, ap_aload2o, aq_istore2, ap_astore2r, ap_astore2n, ap_astore2o, aq_iinc2, aq_iload3, ap_aload3r, ap_aload3n, ap_aload3o, aq_istore3, ap_astore3r, ap_astore3n, ap_astore3o, aq_iinc3, aq_iload4, ap_aload4r, ap_aload4n, ap_aload4o, aq_istore4, ap_astore4r, ap_astore4n, ap_astore4o, aq_iinc4, aq_iload5, ap_aload5r, ap_aload5n, ap_aload5o, aq_istore5, ap_astore5r, ap_astore5n, ap_astore5o, aq_iinc5, aq_iload6, ap_aload6r, ap_aload6n, ap_aload6o, aq_istore6, ap_astore6r, ap_astore6n, ap_astore6o, aq_iinc6, aq_iload7, ap_aload7r, ap_aload7n, ap_aload7o, aq_istore7, ap_astore7r, ap_astore7n, ap_astore7o, aq_iinc7, aq_iload8, ap_aload8r, ap_aload8n, ap_aload8o, aq_istore8, ap_astore8r, ap_astore8n, ap_astore8o, aq_iinc8, aq_iload9, ap_aload9r, ap_aload9n, ap_aload9o, aq_istore9, ap_astore9r, ap_astore9n, ap_astore9o, aq_iinc9, aq_iload10, ap_aload10r, ap_aload10n, ap_aload10o, aq_istore10, ap_astore10r, ap_astore10n, ap_astore10o, aq_iinc10, aq_iload11, ap_aload11r, ap_aload11n, ap_aload11o, aq_istore11, ap_astore11r, ap_astore11n, ap_astore11o, aq_iinc11, aq_iload12, ap_aload12r, ap_aload12n, ap_aload12o, aq_istore12, ap_astore12r, ap_astore12n, ap_astore12o, aq_iinc12, aq_iload13, ap_aload13r, ap_aload13n, ap_aload13o, aq_istore13, ap_astore13r, ap_astore13n, ap_astore13o, aq_iinc13, aq_iload14, ap_aload14r, ap_aload14n, ap_aload14o, aq_istore14, ap_astore14r, ap_astore14n, ap_astore14o, aq_iinc14, aq_iload15, ap_aload15r, ap_aload15n, ap_aload15o, aq_istore15, ap_astore15r, ap_astore15n, ap_astore15o, aq_iinc15, aq_iadd, aq_isub, aq_imul, aq_iand, aq_ior, aq_ixor, aq_ishl, aq_ishr, aq_iushr, aq_idiv, aq_i2l, aq_lcmp, aq_dup, aq_pop, aq_dupx1, aq_dup2, ap_ifeq, ap_ifne, ap_iflt, ap_ifge, ap_ifgt, ap_ifle, ap_iceq, ap_icne, ap_iclt, ap_icge, ap_icgt, ap_icle, ap_ifnullr, ap_ifnulln, ap_ifnullo, aq_getI, aq_getR, aq_putI, aq_putZ, ap_putRr, ap_putRn, ap_putRo, aq_new, aq_newarr, aq_ald, aq_lald, aq_aald, aq_alen, aq_ast, aq_zast, ap_last, aq_aast, ap_castr, aq_gste, aq_objinit, aq_mmax, aq_mmin, aq_dead, aq_iret, aq_zret, aq_aret, aq_vret, aq_throw, aq_callV0, aq_callI0, aq_callS0, aq_callV1, aq_callI1, aq_callS1, aq_callV2, aq_callI2, aq_callS2, aq_callV3, aq_callI3, aq_callS3, aq_callV4, aq_callI4, aq_callS4, aq_callV5, aq_callI5, aq_callS5, aq_callV6, aq_callI6, aq_callS6, aq_callV7, aq_callI7, aq_callS7, aq_callV8, aq_callI8, aq_callS8, aq_callV9, aq_callI9, aq_callS9, pushO, isRf_ref, isRf_null, isRf_rf, isC1_int, isC1_ref, isC1_null, isC1_rf, true_and, and_true, List.length_cons, List.length_nil, Nat.reduceAdd, Nat.reduceLeDiff, hK_sI, hN_sI, hR_sI, hI_sI, hK_sR, hN_sR, hR_sR, hI_sR, kC_2, kC_3, kC_4, kC_5, kC_6, kC_7, kC_8, kC_9, kC_10, kC_11, kC_20, kC_21, kC_22, kC_23, i2_0, i1_1, i0_1, i1_0, bI_and, bI_0, Decidable.not_not, not_false_eq_true, not_true_eq_false, forall_const, false_implies, true_implies, hK_copy, hN_copy, hI_copy, hC_sI, hC_sR, hC_new, hK_new, hN_new, hI_new, hR_new, rf_some, rf_none, ex_ref, ex_null, ex_rf, nref_null, rf_null, Nat.reduceEqDiff, reduceCtorEq, false_and, and_false, if_false, if_true, ne_eq, kO_150, kO_151, kO_152, kO_170, kO_180, kO_190, Value.ref.injEq, exists_eq_left', false_or, ↓reduceIte, and_self, not_true_eq_false, k1, k2, k3, v1, v7, n8, hn, kc, not_true_eq_false, false_implies, and_true, true_implies, kC_10, kC_5]
        intro H q E N I
        rw [v2, v3] at N I
        obtain ⟨d0, ⟨r1, r2, r3⟩, r4, r5⟩ := hX.list_ext E
        have r6 := N.1.2.1
        have r7 : lsz H (dR H 640 c) < 40 := by omega
        simp (disch := omega) only [tx_X8_existingPage, tx_X8_requireRoomForPage, tx_X3_mirrored, tx_X8_addPage, aq_pushI, aq_pushN, aq_pushL, aq_iload0, ap_aload0r, ap_aload0n, ap_aload0o, aq_istore0, ap_astore0r, ap_astore0n, ap_astore0o, aq_iinc0, aq_iload1, ap_aload1r, ap_aload1n, ap_aload1o, aq_istore1, ap_astore1r, ap_astore1n, ap_astore1o, aq_iinc1, aq_iload2, ap_aload2r, ap_aload2n, ap_aload2o, aq_istore2, ap_astore2r, ap_astore2n, ap_astore2o, aq_iinc2, aq_iload3, ap_aload3r, ap_aload3n, ap_aload3o, aq_istore3, ap_astore3r, ap_astore3n, ap_astore3o, aq_iinc3, aq_iload4, ap_aload4r, ap_aload4n, ap_aload4o, aq_istore4, ap_astore4r, ap_astore4n, ap_astore4o, aq_iinc4, aq_iload5, ap_aload5r, ap_aload5n, ap_aload5o, aq_istore5, ap_astore5r, ap_astore5n, ap_astore5o, aq_iinc5, aq_iload6, ap_aload6r, ap_aload6n, ap_aload6o, aq_istore6, ap_astore6r, ap_astore6n, ap_astore6o, aq_iinc6, aq_iload7, ap_aload7r, ap_aload7n, ap_aload7o, aq_istore7, ap_astore7r, ap_astore7n, ap_astore7o, aq_iinc7, aq_iload8, ap_aload8r, ap_aload8n, ap_aload8o, aq_istore8, ap_astore8r, ap_astore8n, ap_astore8o, aq_iinc8, aq_iload9, ap_aload9r, ap_aload9n, ap_aload9o, aq_istore9, ap_astore9r, ap_astore9n, ap_astore9o, aq_iinc9, aq_iload10, ap_aload10r, ap_aload10n, ap_aload10o, aq_istore10, ap_astore10r, ap_astore10n, ap_astore10o, aq_iinc10, aq_iload11, ap_aload11r, ap_aload11n, ap_aload11o, aq_istore11, ap_astore11r, ap_astore11n, ap_astore11o, aq_iinc11, aq_iload12, ap_aload12r, ap_aload12n, ap_aload12o, aq_istore12, ap_astore12r, ap_astore12n, ap_astore12o, aq_iinc12, aq_iload13, ap_aload13r, ap_aload13n, ap_aload13o, aq_istore13, ap_astore13r, ap_astore13n, ap_astore13o, aq_iinc13, aq_iload14, ap_aload14r, ap_aload14n, ap_aload14o, aq_istore14, ap_astore14r, ap_astore14n, ap_astore14o, aq_iinc14, aq_iload15, ap_aload15r, ap_aload15n, ap_aload15o, aq_istore15, ap_astore15r, ap_astore15n, ap_astore15o, aq_iinc15, aq_iadd, aq_isub, aq_imul, aq_iand, aq_ior, aq_ixor, aq_ishl, aq_ishr, aq_iushr, aq_idiv, aq_i2l, aq_lcmp, aq_dup, aq_pop, aq_dupx1, aq_dup2, ap_ifeq, ap_ifne, ap_iflt, ap_ifge, ap_ifgt, ap_ifle, ap_iceq, ap_icne, ap_iclt, ap_icge, ap_icgt, ap_icle, ap_ifnullr, ap_ifnulln, ap_ifnullo, aq_getI, aq_getR, aq_putI, aq_putZ, ap_putRr, ap_putRn, ap_putRo, aq_new, aq_newarr, aq_ald, aq_lald, aq_aald, aq_alen, aq_ast, aq_zast, ap_last, aq_aast, ap_castr, aq_gste, aq_objinit, aq_mmax, aq_mmin, aq_dead, aq_iret, aq_zret, aq_aret, aq_vret, aq_throw, aq_callV0, aq_callI0, aq_callS0, aq_callV1, aq_callI1, aq_callS1, aq_callV2, aq_callI2, aq_callS2, aq_callV3, aq_callI3, aq_callS3, aq_callV4, aq_callI4, aq_callS4, aq_callV5, aq_callI5, aq_callS5, aq_callV6, aq_callI6, aq_callS6, aq_callV7, aq_callI7, aq_callS7, aq_callV8, aq_callI8, aq_callS8, aq_callV9, aq_callI9, aq_callS9, pushO, isRf_ref, isRf_null, isRf_rf, isC1_int, isC1_ref, isC1_null, isC1_rf, true_and, and_true, List.length_cons, List.length_nil, Nat.reduceAdd, Nat.reduceLeDiff, hK_sI, hN_sI, hR_sI, hI_sI, hK_sR, hN_sR, hR_sR, hI_sR, kC_2, kC_3, kC_4, kC_5, kC_6, kC_7, kC_8, kC_9, kC_10, kC_11, kC_20, kC_21, kC_22, kC_23, i2_0, i1_1, i0_1, i1_0, bI_and, bI_0, Decidable.not_not, not_false_eq_true, not_true_eq_false, forall_const, false_implies, true_implies, hK_copy, hN_copy, hI_copy, hC_sI, hC_sR, hC_new, hK_new, hN_new, hI_new, hR_new, rf_some, rf_none, ex_ref, ex_null, ex_rf, nref_null, rf_null, Nat.reduceEqDiff, reduceCtorEq, false_and, and_false, if_false, if_true, ne_eq, kO_150, kO_151, kO_152, kO_170, kO_180, kO_190, Value.ref.injEq, exists_eq_left', false_or, ↓reduceIte, and_self, not_true_eq_false, r1, r2, r3, r4, r5, r6, r7, kC_10]
        refine ⟨by omega, fun h' z => ?_⟩
        rw [d0] at z
        exact h3 p hp rfl n8 h' ⟨mirror_RC hX hW n8 hp E N I z, (MFr.of_ext E).trans (MFr.add z (by rw [← d0, r3]; simp [isL]))⟩
      · simp (disch := omega) only [tx_X8_existingPage, tx_X8_requireRoomForPage, tx_X3_mirrored, tx_X8_addPage, aq_pushI, aq_pushN, aq_pushL, aq_iload0, ap_aload0r, ap_aload0n, ap_aload0o, aq_istore0, ap_astore0r, ap_astore0n, ap_astore0o, aq_iinc0, aq_iload1, ap_aload1r, ap_aload1n, ap_aload1o, aq_istore1, ap_astore1r, ap_astore1n, ap_astore1o, aq_iinc1, aq_iload2, ap_aload2r, ap_aload2n, ap_aload2o, aq_istore2, ap_astore2r, ap_astore2n, ap_astore2o, aq_iinc2, aq_iload3, ap_aload3r, ap_aload3n, ap_aload3o, aq_istore3, ap_astore3r, ap_astore3n, ap_astore3o, aq_iinc3, aq_iload4, ap_aload4r, ap_aload4n, ap_aload4o, aq_istore4, ap_astore4r, ap_astore4n, ap_astore4o, aq_iinc4, aq_iload5, ap_aload5r, ap_aload5n, ap_aload5o, aq_istore5, ap_astore5r, ap_astore5n, ap_astore5o, aq_iinc5, aq_iload6, ap_aload6r, ap_aload6n, ap_aload6o, aq_istore6, ap_astore6r, ap_astore6n, ap_astore6o, aq_iinc6, aq_iload7, ap_aload7r, ap_aload7n, ap_aload7o, aq_istore7, ap_astore7r, ap_astore7n, ap_astore7o, aq_iinc7, aq_iload8, ap_aload8r, ap_aload8n, ap_aload8o, aq_istore8, ap_astore8r, ap_astore8n, ap_astore8o, aq_iinc8, aq_iload9, ap_aload9r, ap_aload9n, ap_aload9o, aq_istore9, ap_astore9r, ap_astore9n, ap_astore9o, aq_iinc9, aq_iload10, ap_aload10r, ap_aload10n, ap_aload10o, aq_istore10, ap_astore10r, ap_astore10n, ap_astore10o, aq_iinc10, aq_iload11, ap_aload11r, ap_aload11n, ap_aload11o, aq_istore11, ap_astore11r, ap_astore11n, ap_astore11o, aq_iinc11, aq_iload12, ap_aload12r, ap_aload12n, ap_aload12o, aq_istore12, ap_astore12r, ap_astore12n, ap_astore12o, aq_iinc12, aq_iload13, ap_aload13r, ap_aload13n, ap_aload13o, aq_istore13, ap_astore13r, ap_astore13n, ap_astore13o, aq_iinc13, aq_iload14, ap_aload14r, ap_aload14n, ap_aload14o, aq_istore14, ap_astore14r, ap_astore14n, ap_astore14o, aq_iinc14, aq_iload15, ap_aload15r, ap_aload15n, ap_aload15o, aq_istore15, ap_astore15r, ap_astore15n, ap_astore15o, aq_iinc15, aq_iadd, aq_isub, aq_imul, aq_iand, aq_ior, aq_ixor, aq_ishl, aq_ishr, aq_iushr, aq_idiv, aq_i2l, aq_lcmp, aq_dup, aq_pop, aq_dupx1, aq_dup2, ap_ifeq, ap_ifne, ap_iflt, ap_ifge, ap_ifgt, ap_ifle, ap_iceq, ap_icne, ap_iclt, ap_icge, ap_icgt, ap_icle, ap_ifnullr, ap_ifnulln, ap_ifnullo, aq_getI, aq_getR, aq_putI, aq_putZ, ap_putRr, ap_putRn, ap_putRo, aq_new, aq_newarr, aq_ald, aq_lald, aq_aald, aq_alen, aq_ast, aq_zast, ap_last, aq_aast, ap_castr, aq_gste, aq_objinit, aq_mmax, aq_mmin, aq_dead, aq_iret, aq_zret, aq_aret, aq_vret, aq_throw, aq_callV0, aq_callI0, aq_callS0, aq_callV1, aq_callI1, aq_callS1, aq_callV2, aq_callI2, aq_callS2, aq_callV3, aq_callI3, aq_callS3, aq_callV4, aq_callI4, aq_callS4, aq_callV5, aq_callI5, aq_callS5, aq_callV6, aq_callI6, aq_callS6, aq_callV7, aq_callI7, aq_callS7, aq_callV8, aq_callI8, aq_callS8, aq_callV9, aq_callI9, aq_callS9, pushO, isRf_ref, isRf_null, isRf_rf, isC1_int, isC1_ref, isC1_null, isC1_rf, true_and, and_true, List.length_cons, List.length_nil, Nat.reduceAdd, Nat.reduceLeDiff, hK_sI, hN_sI, hR_sI, hI_sI, hK_sR, hN_sR, hR_sR, hI_sR, kC_2, kC_3, kC_4, kC_5, kC_6, kC_7, kC_8, kC_9, kC_10, kC_11, kC_20, kC_21, kC_22, kC_23, i2_0, i1_1, i0_1, i1_0, bI_and, bI_0, Decidable.not_not, not_false_eq_true, not_true_eq_false, forall_const, false_implies, true_implies, hK_copy, hN_copy, hI_copy, hC_sI, hC_sR, hC_new, hK_new, hN_new, hI_new, hR_new, rf_some, rf_none, ex_ref, ex_null, ex_rf, nref_null, rf_null, Nat.reduceEqDiff, reduceCtorEq, false_and, and_false, if_false, if_true, ne_eq, kO_150, kO_151, kO_152, kO_170, kO_180, kO_190, Value.ref.injEq, exists_eq_left', false_or, ↓reduceIte, and_self, not_true_eq_false, k1, k2, k3, v1, v7, n8, hn, kc, not_false_eq_true, false_implies, and_true, true_and, true_implies, kC_10, kC_5]
        exact h2 p hp rfl n8 h (CE.rfl hX)
    · exact hT.elim
  · unfold T_X8_mirror at hT
    split at hT
    · exact ⟨Nat.le_of_ble_eq_true rfl, by simp [isC1_int, isC1_ref, isC1_null, isC1_rf]⟩
    · exact hT.elim
