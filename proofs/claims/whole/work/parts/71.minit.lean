/-- the model, its arrays up to n made -/
def AI (h0 : hp_T) (m n : Nat) (s : Bool) (h : hp_T) : Prop := hK h m = 11 ∧ (∀ b, hK h0 b ≠ 0 → b ≠ m → sameAt h0 h b) ∧ (∀ i, hC h i = hC h0 i) ∧ (∀ k i, hI h (704 + k) m i = if s = true ∧ k = 33 ∧ i = 0 then 1 else 0) ∧ ∀ k, k < n → mLen k ≠ 0 → hR h (704 + k) m 0 = some (dR h (704 + k) m) ∧ hK h (dR h (704 + k) m) = 100 + k ∧ hN h (dR h (704 + k) m) = mLen k ∧ ∀ i, hI h (100 + k) (dR h (704 + k) m) i = 0
theorem AI.step {h0 h : hp_T} {m n k q : Nat} {s : Bool} (a : AI h0 m n s h) (hq : hK h q = 0) (hs : ∀ j, j < k → n ≤ j → mLen j = 0) (h4 : 704 + k ≠ 0) : AI h0 m (k + 1) s (hsR (hnew h q (100 + k) (mLen k)) (704 + k) m 0 (some q)) := by
  obtain ⟨a1, a2, a3, a4, a5⟩ := a
  have mq : ¬ m = q := fun e => by rw [e, hq] at a1; cases a1
  refine ⟨?_, fun b hb hm => ?_, a3, fun j i => ?_, fun j hj hl => ?_⟩
  · rw [hK_sR, hK_new, if_neg mq]; exact a1
  · obtain ⟨x1, x2, x3⟩ := a2 b hb hm
    have bq : ¬ b = q := fun e => hb (by rw [← x1, e]; exact hq)
    refine ⟨?_, ?_, fun g i => ⟨?_, ?_⟩⟩
    · rw [hK_sR, hK_new, if_neg bq]; exact x1
    · rw [hN_sR, hN_new, if_neg bq]; exact x2
    · rw [hI_sR, hI_new, if_neg bq]; exact (x3 g i).1
    · rw [hR_sR, if_neg (fun z => hm z.2.1), hR_new, if_neg bq]; exact (x3 g i).2
  · rw [hI_sR, hI_new, if_neg mq]; exact a4 j i
  · by_cases e : j = k
    · subst e
      have hd : dR (hsR (hnew h q (100 + j) (mLen j)) (704 + j) m 0 (some q)) (704 + j) m = q := by
        unfold dR
        rw [hR_sR, if_pos ⟨rfl, rfl, rfl⟩]; rfl
      rw [hd, hK_sR, hN_sR, hK_new, hN_new, if_pos rfl, if_pos rfl, hR_sR, if_pos ⟨rfl, rfl, rfl⟩]
      exact ⟨rfl, rfl, rfl, fun i => by rw [hI_sR, hI_new, if_pos rfl]⟩
    · have hjn : j < n := Classical.byContradiction fun z => hl (hs j (by omega) (by omega))
      obtain ⟨y1, y2, y3, y4⟩ := a5 j hjn hl
      have hd : dR (hsR (hnew h q (100 + k) (mLen k)) (704 + k) m 0 (some q)) (704 + j) m = dR h (704 + j) m := by
        unfold dR
        rw [hR_sR, if_neg (by omega), hR_new, if_neg mq]
      have dq : ¬ dR h (704 + j) m = q := fun z => by rw [z, hq] at y2; omega
      rw [hd, hK_sR, hN_sR, hK_new, hN_new, if_neg dq, if_neg dq, hR_sR, if_neg (by omega), hR_new, if_neg mq]
      exact ⟨y1, y2, y3, fun i => by rw [hI_sR, hI_new, if_neg dq]; exact y4 i⟩
theorem AI.go {h0 h : hp_T} {m n : Nat} {s : Bool} (a : AI h0 m n s h) (k N f kd : Nat) (v : Int32) {K : KT} (hN : mLen k = N) (hf : f = 704 + k) (hkd : kd = 100 + k) (hv : ¬ v < 0 ∧ v.toNatClampNeg = N) (hs : ∀ j, j < k → n ≤ j → mLen j = 0) (hK2 : ∀ h1, AI h0 m (k + 1) s h1 → K [some (.ref m)] [] h1) : i_aload 0 (i_pushI v (i_newarr kd N (i_putR 11 f K))) [some (.ref m)] [] h := by
  subst hf hkd
  refine ⟨isRf_ref m, ⟨hv.1, by omega⟩, fun q hq => ⟨?_, some q, rfl, ?_⟩⟩
  · have mq : ¬ m = q := fun e => by have := a.1; rw [e, hq] at this; cases this
    rw [hK_new, if_neg mq]; exact a.1
  · have := a.step hq hs (by omega)
    rw [hN] at this
    rw [hv.2]
    exact hK2 _ this
theorem AI.one {h0 h : hp_T} {m n : Nat} (a : AI h0 m n false h) : AI h0 m n true (hsI h 737 m 0 1) := by
  obtain ⟨a1, a2, a3, a4, a5⟩ := a
  refine ⟨a1, fun b hb hm => ?_, a3, fun j i => ?_, fun j hj hl => ?_⟩
  · obtain ⟨x1, x2, x3⟩ := a2 b hb hm
    exact ⟨x1, x2, fun g i => ⟨by rw [hI_sI, if_neg (fun z => hm z.2.1)]; exact (x3 g i).1, (x3 g i).2⟩⟩
  · rw [hI_sI]
    by_cases e : 704 + j = 737 ∧ m = m ∧ i = 0
    · rw [if_pos e, if_pos ⟨rfl, by omega, e.2.2⟩]
    · rw [if_neg e, if_neg (fun z => e ⟨by omega, rfl, z.2.2⟩), a4, if_neg (fun z => by cases z.1)]
  · obtain ⟨y1, y2, y3, y4⟩ := a5 j hj hl
    refine ⟨y1, y2, y3, fun i => ?_⟩
    rw [dR_sI, hI_sI, if_neg ?_]
    · exact y4 i
    · rintro ⟨z1, z2, -⟩
      rw [z2] at y2
      omega
theorem AI.goI {h0 h : hp_T} {m n : Nat} (a : AI h0 m n false h) {K : KT} (hK2 : ∀ h1, AI h0 m n true h1 → K [some (.ref m)] [] h1) : i_aload 0 (i_pushI 1 (i_putI 11 737 K)) [some (.ref m)] [] h := ⟨isRf_ref m, a.1, hK2 _ a.one⟩
/-- the state of a new model -/
def sg0 : sg_T := fun k i => if k = 33 ∧ i = 0 then 1 else 0
theorem AI.fin {h0 h : hp_T} {m : Nat} (a : AI h0 m 42 true h) : RM h m sg0 := by
  obtain ⟨a1, a2, a3, a4, a5⟩ := a
  refine ⟨⟨a1, fun k h1 h2 => ⟨(a5 k h1 h2).1, (a5 k h1 h2).2.1, (a5 k h1 h2).2.2.1⟩⟩, ?_⟩
  funext k i
  unfold sM sg0
  by_cases c : k < 34
  · rw [if_pos c]
    unfold mv
    by_cases e : mLen k = 0
    · rw [if_pos e, a4]
      by_cases d : k = 33 ∧ i = 0
      · rw [if_pos ⟨rfl, d⟩, if_pos d]
      · rw [if_neg (fun z => d z.2), if_neg d]
    · rw [if_neg e, (a5 k (by omega) e).2.2.2, if_neg (fun z => e (by rw [z.1]; rfl))]
  · rw [if_neg c, if_neg (by omega)]
theorem WF_0 : WF sg0 := by
  have z : ∀ k i, ¬ k = 33 → sg0 k i = 0 := fun k i h => if_neg (fun y => h y.1)
  have n0 : ∀ k i, ¬ k = 33 → (sg0 k i).toNatClampNeg = 0 := fun k i h => by rw [z k i h]; rfl
  have s0 : sN sg0 = 0 := n0 0 0 (by decide)
  have s1 : sF sg0 = 0 := n0 13 0 (by decide)
  have s2 : sT sg0 = 0 := n0 26 0 (by decide)
  have p0 : ∀ p, pN sg0 p = 0 := fun p => n0 2 p (by decide)
  have b0 : ∀ p, bN sg0 p = 0 := fun p => n0 3 p (by decide)
  refine ⟨⟨⟨by rw [s0]; rfl, by omega⟩, ⟨by rw [s1]; rfl, by omega⟩, ⟨by rw [s2]; rfl, by omega⟩, ⟨0, rfl, by omega⟩, ⟨1, rfl, by omega, by omega⟩⟩, fun p hp => ⟨⟨by rw [p0]; rfl, by rw [p0]; omega⟩, ⟨by rw [b0]; rfl, by rw [b0]; omega⟩, by rw [z 1 p (by decide)]; rfl, ⟨0, rfl, by omega⟩, fun _ => ⟨p0 p, b0 p, rfl, rfl⟩, fun h => by omega⟩, fun p k _ h => ?_, fun p k f _ _ _ => ⟨by rw [z 18 _ (by decide)]; rfl, Or.inl rfl⟩, fun p k _ h => ?_, fun j => by rw [z 30 _ (by decide)]; rfl⟩
  · rw [p0] at h; omega
  · rw [b0] at h; omega
def MI (h : hp_T) (m : Nat) (h' : hp_T) : Prop := (∀ b, hK h b ≠ 0 → b ≠ m → sameAt h h' b) ∧ (∀ i, hC h' i = hC h i) ∧ RM h' m sg0
def wp_X9_init_0 (P : Option Value → hp_T → Prop) (X : String → hp_T → Prop) : KT :=
  i_aload 0 (i_objinit (i_aload 0 (i_pushI 8 (i_newarr 101 8 (i_putR 11 705 (i_aload 0 (i_pushI 8 (i_newarr 102 8 (i_putR 11 706 (i_aload 0 (i_pushI 8 (i_newarr 103 8 (i_putR 11 707 (i_aload 0
    (i_pushI 8 (i_newarr 104 8 (i_putR 11 708 (i_aload 0 (i_pushI 8 (i_newarr 105 8 (i_putR 11 709 (i_aload 0 (i_pushI 8 (i_newarr 106 8 (i_putR 11 710 (i_aload 0 (i_pushI 8 (i_newarr 107 8
    (i_putR 11 711 (i_aload 0 (i_pushI 64 (i_newarr 108 64 (i_putR 11 712 (i_aload 0 (i_pushI 64 (i_newarr 109 64 (i_putR 11 713 (i_aload 0 (i_pushI 64 (i_newarr 110 64 (i_putR 11 714 (i_aload 0
    (i_pushI 64 (i_newarr 111 64 (i_putR 11 715 (i_aload 0 (i_pushI 64 (i_newarr 112 64 (i_putR 11 716 (i_aload 0 (i_pushI 768 (i_newarr 114 768 (i_putR 11 718 (i_aload 0 (i_pushI 768 (i_newarr 115 768
    (i_putR 11 719 (i_aload 0 (i_pushI 768 (i_newarr 116 768 (i_putR 11 720 (i_aload 0 (i_pushI 768 (i_newarr 117 768 (i_putR 11 721 (i_aload 0 (i_pushI 768 (i_newarr 118 768 (i_putR 11 722
    (i_aload 0 (i_pushI 160 (i_newarr 119 160 (i_putR 11 723 (i_aload 0 (i_pushI 160 (i_newarr 120 160 (i_putR 11 724 (i_aload 0 (i_pushI 160 (i_newarr 121 160 (i_putR 11 725 (i_aload 0 (i_pushI 160
    (i_newarr 122 160 (i_putR 11 726 (i_aload 0 (i_pushI 160 (i_newarr 123 160 (i_putR 11 727 (i_aload 0 (i_pushI 160 (i_newarr 124 160 (i_putR 11 728 (i_aload 0 (i_pushI 160 (i_newarr 125 160
    (i_putR 11 729 (i_aload 0 (i_pushI 40 (i_newarr 127 40 (i_putR 11 731 (i_aload 0 (i_pushI 40 (i_newarr 128 40 (i_putR 11 732 (i_aload 0 (i_pushI 40 (i_newarr 129 40 (i_putR 11 733 (i_aload 0
    (i_pushI 40 (i_newarr 130 40 (i_putR 11 734 (i_aload 0 (i_pushI 40 (i_newarr 131 40 (i_putR 11 735 (i_aload 0 (i_pushI 1 (i_putI 11 737 (i_aload 0 (i_pushI 8 (i_newarr 135 8 (i_putR 11 739
    (i_aload 0 (i_pushI 20 (i_newarr 137 20 (i_putR 11 741 (i_aload 0 (i_pushI 256 (i_newarr 140 256 (i_putR 11 744 (i_vret P)))))))))))))))))))))))))))))))))))))))))))))))))))))))))))))))))))))))))))))))))))))))))))))))))))))))))))))))))))))))))))))))))))))
theorem wx_X9_init_0 (P : Option Value → hp_T → Prop) (X : String → hp_T → Prop) (ls : List (Option Value)) (st : List Value) (h : hp_T) : wp_X9_init_0 P X ls st h = (i_aload 0 (i_objinit (i_aload 0 (i_pushI 8 (i_newarr 101 8 (i_putR 11 705 (i_aload 0 (i_pushI 8 (i_newarr 102 8 (i_putR 11 706 (i_aload 0 (i_pushI 8 (i_newarr 103 8 (i_putR 11 707 (i_aload 0
    (i_pushI 8 (i_newarr 104 8 (i_putR 11 708 (i_aload 0 (i_pushI 8 (i_newarr 105 8 (i_putR 11 709 (i_aload 0 (i_pushI 8 (i_newarr 106 8 (i_putR 11 710 (i_aload 0 (i_pushI 8 (i_newarr 107 8
    (i_putR 11 711 (i_aload 0 (i_pushI 64 (i_newarr 108 64 (i_putR 11 712 (i_aload 0 (i_pushI 64 (i_newarr 109 64 (i_putR 11 713 (i_aload 0 (i_pushI 64 (i_newarr 110 64 (i_putR 11 714 (i_aload 0
    (i_pushI 64 (i_newarr 111 64 (i_putR 11 715 (i_aload 0 (i_pushI 64 (i_newarr 112 64 (i_putR 11 716 (i_aload 0 (i_pushI 768 (i_newarr 114 768 (i_putR 11 718 (i_aload 0 (i_pushI 768 (i_newarr 115 768
    (i_putR 11 719 (i_aload 0 (i_pushI 768 (i_newarr 116 768 (i_putR 11 720 (i_aload 0 (i_pushI 768 (i_newarr 117 768 (i_putR 11 721 (i_aload 0 (i_pushI 768 (i_newarr 118 768 (i_putR 11 722
    (i_aload 0 (i_pushI 160 (i_newarr 119 160 (i_putR 11 723 (i_aload 0 (i_pushI 160 (i_newarr 120 160 (i_putR 11 724 (i_aload 0 (i_pushI 160 (i_newarr 121 160 (i_putR 11 725 (i_aload 0 (i_pushI 160
    (i_newarr 122 160 (i_putR 11 726 (i_aload 0 (i_pushI 160 (i_newarr 123 160 (i_putR 11 727 (i_aload 0 (i_pushI 160 (i_newarr 124 160 (i_putR 11 728 (i_aload 0 (i_pushI 160 (i_newarr 125 160
    (i_putR 11 729 (i_aload 0 (i_pushI 40 (i_newarr 127 40 (i_putR 11 731 (i_aload 0 (i_pushI 40 (i_newarr 128 40 (i_putR 11 732 (i_aload 0 (i_pushI 40 (i_newarr 129 40 (i_putR 11 733 (i_aload 0
    (i_pushI 40 (i_newarr 130 40 (i_putR 11 734 (i_aload 0 (i_pushI 40 (i_newarr 131 40 (i_putR 11 735 (i_aload 0 (i_pushI 1 (i_putI 11 737 (i_aload 0 (i_pushI 8 (i_newarr 135 8 (i_putR 11 739
    (i_aload 0 (i_pushI 20 (i_newarr 137 20 (i_putR 11 741 (i_aload 0 (i_pushI 256 (i_newarr 140 256 (i_putR 11 744 (i_vret P)))))))))))))))))))))))))))))))))))))))))))))))))))))))))))))))))))))))))))))))))))))))))))))))))))))))))))))))))))))))))))))))))))))) ls st h := rfl
set_option maxRecDepth 20000 in
theorem go_X9_init_0 {z : zT} {P : Option Value → hp_T → Prop} {X : String → hp_T → Prop} (hz : Cx z cX9_init 1 "PanelryModel" "<init>" 1 32 5820) (hr : Rt z none P X 32 5820) : Go z 0 0 0 (wp_X9_init_0 P X) := 
  s_aload_n hz rfl dX9_init_0 (s_objinit hz w930 w61 w62 rfl dX9_init_1 (s_aload_n hz rfl dX9_init_4 (s_bipush hz rfl dX9_init_5 (s_newarr (at0 := .boolean) (ty := .boolean) hz rfl rfl rfl rfl
    (Or.inr (Or.inl ⟨rfl, rfl⟩)) w1058 rfl rfl rfl dX9_init_7 (fp_RX9_7 hz dX9_init_9 (s_aload_n hz rfl dX9_init_12 (s_bipush hz rfl dX9_init_13 (s_newarr (at0 := .int) (ty := .int) hz rfl rfl rfl rfl
    (Or.inl ⟨rfl, rfl⟩) w162 rfl rfl rfl dX9_init_15 (fp_RX9_13 hz dX9_init_17 (s_aload_n hz rfl dX9_init_20 (s_bipush hz rfl dX9_init_21 (s_newarr (at0 := .int) (ty := .int) hz rfl rfl rfl rfl
    (Or.inl ⟨rfl, rfl⟩) w162 rfl rfl rfl dX9_init_23 (fp_RX9_17 hz dX9_init_25 (s_aload_n hz rfl dX9_init_28 (s_bipush hz rfl dX9_init_29 (s_newarr (at0 := .int) (ty := .int) hz rfl rfl rfl rfl
    (Or.inl ⟨rfl, rfl⟩) w162 rfl rfl rfl dX9_init_31 (fp_RX9_20 hz dX9_init_33 (s_aload_n hz rfl dX9_init_36 (s_bipush hz rfl dX9_init_37 (s_newarr (at0 := .int) (ty := .int) hz rfl rfl rfl rfl
    (Or.inl ⟨rfl, rfl⟩) w162 rfl rfl rfl dX9_init_39 (fp_RX9_23 hz dX9_init_41 (s_aload_n hz rfl dX9_init_44 (s_bipush hz rfl dX9_init_45 (s_newarr (at0 := .int) (ty := .int) hz rfl rfl rfl rfl
    (Or.inl ⟨rfl, rfl⟩) w162 rfl rfl rfl dX9_init_47 (fp_RX9_26 hz dX9_init_49 (s_aload_n hz rfl dX9_init_52 (s_bipush hz rfl dX9_init_53 (s_newarr (at0 := .int) (ty := .int) hz rfl rfl rfl rfl
    (Or.inl ⟨rfl, rfl⟩) w162 rfl rfl rfl dX9_init_55 (fp_RX9_29 hz dX9_init_57 (s_aload_n hz rfl dX9_init_60 (s_bipush hz rfl dX9_init_61 (s_newarr (at0 := .int) (ty := .int) hz rfl rfl rfl rfl
    (Or.inl ⟨rfl, rfl⟩) w162 rfl rfl rfl dX9_init_63 (fp_RX9_32 hz dX9_init_65 (s_aload_n hz rfl dX9_init_68 (s_bipush hz rfl dX9_init_69 (s_newarr (at0 := .int) (ty := .int) hz rfl rfl rfl rfl
    (Or.inl ⟨rfl, rfl⟩) w162 rfl rfl rfl dX9_init_71 (fp_RX9_35 hz dX9_init_73 (s_aload_n hz rfl dX9_init_76 (s_bipush hz rfl dX9_init_77 (s_newarr (at0 := .int) (ty := .int) hz rfl rfl rfl rfl
    (Or.inl ⟨rfl, rfl⟩) w162 rfl rfl rfl dX9_init_79 (fp_RX9_38 hz dX9_init_81 (s_aload_n hz rfl dX9_init_84 (s_bipush hz rfl dX9_init_85 (s_newarr (at0 := .int) (ty := .int) hz rfl rfl rfl rfl
    (Or.inl ⟨rfl, rfl⟩) w162 rfl rfl rfl dX9_init_87 (fp_RX9_41 hz dX9_init_89 (s_aload_n hz rfl dX9_init_92 (s_bipush hz rfl dX9_init_93 (s_newarr (at0 := .int) (ty := .int) hz rfl rfl rfl rfl
    (Or.inl ⟨rfl, rfl⟩) w162 rfl rfl rfl dX9_init_95 (fp_RX9_44 hz dX9_init_97 (s_aload_n hz rfl dX9_init_100 (s_sipush hz rfl dX9_init_101 (s_newarr (at0 := .int) (ty := .int) hz rfl rfl rfl rfl
    (Or.inl ⟨rfl, rfl⟩) w162 rfl rfl rfl dX9_init_104 (fp_RX9_47 hz dX9_init_106 (s_aload_n hz rfl dX9_init_109 (s_sipush hz rfl dX9_init_110 (s_newarr (at0 := .int) (ty := .int) hz rfl rfl rfl rfl
    (Or.inl ⟨rfl, rfl⟩) w162 rfl rfl rfl dX9_init_113 (fp_RX9_50 hz dX9_init_115 (s_aload_n hz rfl dX9_init_118 (s_sipush hz rfl dX9_init_119 (s_newarr (at0 := .int) (ty := .int) hz rfl rfl rfl rfl
    (Or.inl ⟨rfl, rfl⟩) w162 rfl rfl rfl dX9_init_122 (fp_RX9_53 hz dX9_init_124 (s_aload_n hz rfl dX9_init_127 (s_sipush hz rfl dX9_init_128 (s_newarr (at0 := .int) (ty := .int) hz rfl rfl rfl rfl
    (Or.inl ⟨rfl, rfl⟩) w162 rfl rfl rfl dX9_init_131 (fp_RX9_56 hz dX9_init_133 (s_aload_n hz rfl dX9_init_136 (s_sipush hz rfl dX9_init_137 (s_newarr (at0 := .boolean) (ty := .boolean) hz rfl rfl rfl rfl
    (Or.inr (Or.inl ⟨rfl, rfl⟩)) w1058 rfl rfl rfl dX9_init_140 (fp_RX9_59 hz dX9_init_142 (s_aload_n hz rfl dX9_init_145 (s_sipush hz rfl dX9_init_146 (s_newarr (at0 := .int) (ty := .int) hz rfl rfl rfl rfl
    (Or.inl ⟨rfl, rfl⟩) w162 rfl rfl rfl dX9_init_149 (fp_RX9_62 hz dX9_init_151 (s_aload_n hz rfl dX9_init_154 (s_sipush hz rfl dX9_init_155 (s_newarr (at0 := .int) (ty := .int) hz rfl rfl rfl rfl
    (Or.inl ⟨rfl, rfl⟩) w162 rfl rfl rfl dX9_init_158 (fp_RX9_65 hz dX9_init_160 (s_aload_n hz rfl dX9_init_163 (s_sipush hz rfl dX9_init_164 (s_newarr (at0 := .int) (ty := .int) hz rfl rfl rfl rfl
    (Or.inl ⟨rfl, rfl⟩) w162 rfl rfl rfl dX9_init_167 (fp_RX9_68 hz dX9_init_169 (s_aload_n hz rfl dX9_init_172 (s_sipush hz rfl dX9_init_173 (s_newarr (at0 := .int) (ty := .int) hz rfl rfl rfl rfl
    (Or.inl ⟨rfl, rfl⟩) w162 rfl rfl rfl dX9_init_176 (fp_RX9_71 hz dX9_init_178 (s_aload_n hz rfl dX9_init_181 (s_sipush hz rfl dX9_init_182 (s_newarr (at0 := .int) (ty := .int) hz rfl rfl rfl rfl
    (Or.inl ⟨rfl, rfl⟩) w162 rfl rfl rfl dX9_init_185 (fp_RX9_74 hz dX9_init_187 (s_aload_n hz rfl dX9_init_190 (s_sipush hz rfl dX9_init_191 (s_newarr (at0 := .int) (ty := .int) hz rfl rfl rfl rfl
    (Or.inl ⟨rfl, rfl⟩) w162 rfl rfl rfl dX9_init_194 (fp_RX9_77 hz dX9_init_196 (s_aload_n hz rfl dX9_init_199 (s_sipush hz rfl dX9_init_200 (s_newarr (at0 := .int) (ty := .int) hz rfl rfl rfl rfl
    (Or.inl ⟨rfl, rfl⟩) w162 rfl rfl rfl dX9_init_203 (fp_RX9_80 hz dX9_init_205 (s_aload_n hz rfl dX9_init_208 (s_bipush hz rfl dX9_init_209 (s_newarr (at0 := .int) (ty := .int) hz rfl rfl rfl rfl
    (Or.inl ⟨rfl, rfl⟩) w162 rfl rfl rfl dX9_init_211 (fp_RX9_83 hz dX9_init_213 (s_aload_n hz rfl dX9_init_216 (s_bipush hz rfl dX9_init_217 (s_newarr (at0 := .int) (ty := .int) hz rfl rfl rfl rfl
    (Or.inl ⟨rfl, rfl⟩) w162 rfl rfl rfl dX9_init_219 (fp_RX9_86 hz dX9_init_221 (s_aload_n hz rfl dX9_init_224 (s_bipush hz rfl dX9_init_225 (s_newarr (at0 := .int) (ty := .int) hz rfl rfl rfl rfl
    (Or.inl ⟨rfl, rfl⟩) w162 rfl rfl rfl dX9_init_227 (fp_RX9_89 hz dX9_init_229 (s_aload_n hz rfl dX9_init_232 (s_bipush hz rfl dX9_init_233 (s_newarr (at0 := .boolean) (ty := .boolean) hz rfl rfl rfl rfl
    (Or.inr (Or.inl ⟨rfl, rfl⟩)) w1058 rfl rfl rfl dX9_init_235 (fp_RX9_92 hz dX9_init_237 (s_aload_n hz rfl dX9_init_240 (s_bipush hz rfl dX9_init_241 (s_newarr (at0 := .int) (ty := .int) hz rfl rfl rfl rfl
    (Or.inl ⟨rfl, rfl⟩) w162 rfl rfl rfl dX9_init_243 (fp_RX9_95 hz dX9_init_245 (s_aload_n hz rfl dX9_init_248 (s_iconst hz rfl dX9_init_249 (fp_RX9_98 hz dX9_init_250 (s_aload_n hz rfl dX9_init_253
    (s_bipush hz rfl dX9_init_254 (s_newarr (at0 := .int) (ty := .int) hz rfl rfl rfl rfl (Or.inl ⟨rfl, rfl⟩) w162 rfl rfl rfl dX9_init_256 (fp_RX9_102 hz dX9_init_258 (s_aload_n hz rfl dX9_init_261
    (s_bipush hz rfl dX9_init_262 (s_newarr (at0 := .int) (ty := .int) hz rfl rfl rfl rfl (Or.inl ⟨rfl, rfl⟩) w162 rfl rfl rfl dX9_init_264 (fp_RX9_105 hz dX9_init_266 (s_aload_n hz rfl dX9_init_269
    (s_sipush hz rfl dX9_init_270 (s_newarr (at0 := .int) (ty := .int) hz rfl rfl rfl rfl (Or.inl ⟨rfl, rfl⟩) w162 rfl rfl rfl dX9_init_273 (fp_RX9_108 hz dX9_init_275 (s_vret hz hr rfl rfl dX9_init_278)))))))))))))))))))))))))))))))))))))))))))))))))))))))))))))))))))))))))))))))))))))))))))))))))))))))))))))))))))))))))))))))))))))

def T_X9_init : PT := fun av h P X => match av with
  | [.ref m] => (hK h m = 11 ∧ ∀ g i, hI h g m i = 0) ∧ (∀ h', MI h m h' → P none h')
  | _ => False
theorem tx_X9_init (m : Nat) (h : hp_T) (P : Option Value → hp_T → Prop) (X : String → hp_T → Prop) : T_X9_init [.ref m] h P X = ((hK h m = 11 ∧ ∀ g i, hI h g m i = 0) ∧ (∀ h', MI h m h' → P none h')) := rfl
set_option maxRecDepth 20000 in
theorem ct_X9_init : CT yX9_init cX9_init 1 none 1 32 5820 T_X9_init := by
  refine ct_ofE (by decide) (fun z av h P X hT hz hr => ?_) (fun av h P X hT => ?_)
  · unfold T_X9_init at hT
    split at hT
    · refine ⟨_, go_X9_init_0 hz hr, ?_⟩
      rename_i m
      show wp_X9_init_0 P X [some (.ref m)] [] h
      obtain ⟨hk, hp⟩ := hT
      show i_aload 0 (i_objinit _) _ _ _
      refine ⟨isRf_ref m, Nat.zero_le 4, ?_⟩
      have a0 : AI h m 0 false h := ⟨hk.1, fun b _ _ => ⟨rfl, rfl, fun _ _ => ⟨rfl, rfl⟩⟩, fun _ => rfl, fun k i => (hk.2 _ _).trans (if_neg (fun z => by cases z.1)).symm, fun k h => absurd h (Nat.not_lt_zero k)⟩
      refine a0.go 1 8 705 101 8 rfl rfl rfl ⟨by decide, rfl⟩ (by decide) (fun h1 a1 => ?_)
      refine a1.go 2 8 706 102 8 rfl rfl rfl ⟨by decide, rfl⟩ (by decide) (fun h1 a2 => ?_)
      refine a2.go 3 8 707 103 8 rfl rfl rfl ⟨by decide, rfl⟩ (by decide) (fun h1 a3 => ?_)
      refine a3.go 4 8 708 104 8 rfl rfl rfl ⟨by decide, rfl⟩ (by decide) (fun h1 a4 => ?_)
      refine a4.go 5 8 709 105 8 rfl rfl rfl ⟨by decide, rfl⟩ (by decide) (fun h1 a5 => ?_)
      refine a5.go 6 8 710 106 8 rfl rfl rfl ⟨by decide, rfl⟩ (by decide) (fun h1 a6 => ?_)
      refine a6.go 7 8 711 107 8 rfl rfl rfl ⟨by decide, rfl⟩ (by decide) (fun h1 a7 => ?_)
      refine a7.go 8 64 712 108 64 rfl rfl rfl ⟨by decide, rfl⟩ (by decide) (fun h1 a8 => ?_)
      refine a8.go 9 64 713 109 64 rfl rfl rfl ⟨by decide, rfl⟩ (by decide) (fun h1 a9 => ?_)
      refine a9.go 10 64 714 110 64 rfl rfl rfl ⟨by decide, rfl⟩ (by decide) (fun h1 a10 => ?_)
      refine a10.go 11 64 715 111 64 rfl rfl rfl ⟨by decide, rfl⟩ (by decide) (fun h1 a11 => ?_)
      refine a11.go 12 64 716 112 64 rfl rfl rfl ⟨by decide, rfl⟩ (by decide) (fun h1 a12 => ?_)
      refine a12.go 14 768 718 114 768 rfl rfl rfl ⟨by decide, rfl⟩ (by decide) (fun h1 a13 => ?_)
      refine a13.go 15 768 719 115 768 rfl rfl rfl ⟨by decide, rfl⟩ (by decide) (fun h1 a14 => ?_)
      refine a14.go 16 768 720 116 768 rfl rfl rfl ⟨by decide, rfl⟩ (by decide) (fun h1 a15 => ?_)
      refine a15.go 17 768 721 117 768 rfl rfl rfl ⟨by decide, rfl⟩ (by decide) (fun h1 a16 => ?_)
      refine a16.go 18 768 722 118 768 rfl rfl rfl ⟨by decide, rfl⟩ (by decide) (fun h1 a17 => ?_)
      refine a17.go 19 160 723 119 160 rfl rfl rfl ⟨by decide, rfl⟩ (by decide) (fun h1 a18 => ?_)
      refine a18.go 20 160 724 120 160 rfl rfl rfl ⟨by decide, rfl⟩ (by decide) (fun h1 a19 => ?_)
      refine a19.go 21 160 725 121 160 rfl rfl rfl ⟨by decide, rfl⟩ (by decide) (fun h1 a20 => ?_)
      refine a20.go 22 160 726 122 160 rfl rfl rfl ⟨by decide, rfl⟩ (by decide) (fun h1 a21 => ?_)
      refine a21.go 23 160 727 123 160 rfl rfl rfl ⟨by decide, rfl⟩ (by decide) (fun h1 a22 => ?_)
      refine a22.go 24 160 728 124 160 rfl rfl rfl ⟨by decide, rfl⟩ (by decide) (fun h1 a23 => ?_)
      refine a23.go 25 160 729 125 160 rfl rfl rfl ⟨by decide, rfl⟩ (by decide) (fun h1 a24 => ?_)
      refine a24.go 27 40 731 127 40 rfl rfl rfl ⟨by decide, rfl⟩ (by decide) (fun h1 a25 => ?_)
      refine a25.go 28 40 732 128 40 rfl rfl rfl ⟨by decide, rfl⟩ (by decide) (fun h1 a26 => ?_)
      refine a26.go 29 40 733 129 40 rfl rfl rfl ⟨by decide, rfl⟩ (by decide) (fun h1 a27 => ?_)
      refine a27.go 30 40 734 130 40 rfl rfl rfl ⟨by decide, rfl⟩ (by decide) (fun h1 a28 => ?_)
      refine a28.go 31 40 735 131 40 rfl rfl rfl ⟨by decide, rfl⟩ (by decide) (fun h1 a29 => ?_)
      refine a29.goI (fun h1 aI => ?_)
      refine aI.go 35 8 739 135 8 rfl rfl rfl ⟨by decide, rfl⟩ (by decide) (fun h1 a30 => ?_)
      refine a30.go 37 20 741 137 20 rfl rfl rfl ⟨by decide, rfl⟩ (by decide) (fun h1 a31 => ?_)
      refine a31.go 40 256 744 140 256 rfl rfl rfl ⟨by decide, rfl⟩ (by decide) (fun h1 a32 => ?_)
      have q41 : ∀ k, k < 42 → mLen k ≠ 0 → k < 40 + 1 := by decide
      exact hp _ ⟨a32.2.1, a32.2.2.1, AI.fin ⟨a32.1, a32.2.1, a32.2.2.1, a32.2.2.2.1, fun k h1 h2 => a32.2.2.2.2 k (q41 k h1 h2) h2⟩⟩
    · exact hT.elim
  · unfold T_X9_init at hT
    split at hT
    · exact ⟨Nat.le_of_ble_eq_true rfl, by simp [isC1_int, isC1_ref, isC1_null, isC1_rf]⟩
    · exact hT.elim
