def takeR (tb : Int32 → List Nat → List Nat) (AC DW GA GD EA ED : Int32 → Int32) (lw : Int32) : Nat → Int32 → List Nat → Int32 → List Nat × Int32
  | 0, s, L, d => (tb s L, d)
  | f + 1, s, L, d => if bcI s < 2 then (tb s L, d) else if AC s = -1 ∧ DW s = -1 then (tb s L, if GA s = GD s then d + 1 else d) else
    if GD s ≤ GA s then takeR tb AC DW GA GD EA ED lw f (s &&& (EA s ^^^ -1)) (takeR tb AC DW GA GD EA ED lw f (EA s) L (if GA s = GD s then d + 1 else d)).1 (takeR tb AC DW GA GD EA ED lw f (EA s) L (if GA s = GD s then d + 1 else d)).2
    else if lw = 0 then takeR tb AC DW GA GD EA ED lw f (s &&& (ED s ^^^ -1)) (takeR tb AC DW GA GD EA ED lw f (ED s) L (if GA s = GD s then d + 1 else d)).1 (takeR tb AC DW GA GD EA ED lw f (ED s) L (if GA s = GD s then d + 1 else d)).2
    else takeR tb AC DW GA GD EA ED lw f (ED s) (takeR tb AC DW GA GD EA ED lw f (s &&& (ED s ^^^ -1)) L (if GA s = GD s then d + 1 else d)).1 (takeR tb AC DW GA GD EA ED lw f (s &&& (ED s ^^^ -1)) L (if GA s = GD s then d + 1 else d)).2
theorem takeR_len {tb : Int32 → List Nat → List Nat} {AC DW GA GD EA ED : Int32 → Int32} {lw : Int32} (ht : ∀ s L, L.length ≤ 8 → (tb s L).length ≤ 8) : ∀ f s L d, L.length ≤ 8 → (takeR tb AC DW GA GD EA ED lw f s L d).1.length ≤ 8
  | 0, s, L, d, h => ht s L h
  | f + 1, s, L, d, h => by
    rw [takeR]
    split
    · exact ht s L h
    · split
      · exact ht s L h
      · split
        · exact takeR_len ht f _ _ _ (takeR_len ht f _ _ _ h)
        · split
          · exact takeR_len ht f _ _ _ (takeR_len ht f _ _ _ h)
          · exact takeR_len ht f _ _ _ (takeR_len ht f _ _ _ h)
/-- the taking of a set in the reading r of the heap h -/
noncomputable abbrev takeH (h : hp_T) (r : Nat) : Nat → Int32 → List Nat → Int32 → List Nat × Int32 := takeR (fun s L => tbnL s (pnN h (dR h 448 r)) 0 L) (fun s => cutH h r s 1) (fun s => cutH h r s 0) (fun s => gutH h r s 1 (cutH h r s 1)) (fun s => gutH h r s 0 (cutH h r s 0)) (fun s => endH h r s 1 (cutH h r s 1)) (fun s => endH h r s 0 (cutH h r s 0)) (hI h 449 r 0)
def T_X5_takeSet (f : Nat) : PT := fun av h P X => match av with
  | [.ref r, .int s, .int dp] => ∃ h0 L d, h = hrd h0 r (dR h0 450 r) L d ∧ rdOK h0 r ∧ L.length ≤ 8 ∧ dp = nI (8 - f) ∧ f ≤ 8 ∧ P none (hrd h0 r (dR h0 450 r) (takeH h0 r f s L d).1 (takeH h0 r f s L d).2)
  | _ => False
def wp_X5_takeSet_14 (TT : PT) (P : Option Value → hp_T → Prop) (X : String → hp_T → Prop) : KT :=
  i_aload 0 (i_iload 1 (i_callV 1 7 T_X5_takeByNumber noX (i_vret P)))
set_option maxRecDepth 20000 in
theorem go_X5_takeSet_14 {TT : PT} {lv lvI : Nat} (hkL : lvI + 1 ≤ lv ∧ 5 ≤ lv ∧ CT yX5_takeSet cX5_takeSet 8 none lvI 0 0 TT) {z : zT} {P : Option Value → hp_T → Prop} {X : String → hp_T → Prop} (hz : Cx z cX5_takeSet 8 "Panelry$Reading" "takeSet" lv 0 0) (hr : Rt z none P X 0 0) : Go z 0 0 14 (wp_X5_takeSet_14 TT P X) := have hl1 := hkL.1; have hl2 := hkL.2.1; have ih := hkL.2.2;
  s_aload_n hz rfl dX5_takeSet_14 (s_iload_n hz rfl dX5_takeSet_15 (s_callV hz ct_X5_takeByNumber ⟨w178, w181, w49, by decide, by decide, by decide +kernel⟩ w180 w1 cls6 rfl rfl (ble_of (by omega)) rfl rfl rfl out_no dX5_takeSet_16
    (s_vret hz hr rfl rfl dX5_takeSet_19)))
def wp_X5_takeSet_191 (TT : PT) (P : Option Value → hp_T → Prop) (X : String → hp_T → Prop) : KT :=
  i_vret P
set_option maxRecDepth 20000 in
theorem go_X5_takeSet_191 {TT : PT} {lv lvI : Nat} (hkL : lvI + 1 ≤ lv ∧ 5 ≤ lv ∧ CT yX5_takeSet cX5_takeSet 8 none lvI 0 0 TT) {z : zT} {P : Option Value → hp_T → Prop} {X : String → hp_T → Prop} (hz : Cx z cX5_takeSet 8 "Panelry$Reading" "takeSet" lv 0 0) (hr : Rt z none P X 0 0) : Go z 0 0 191 (wp_X5_takeSet_191 TT P X) := have hl1 := hkL.1; have hl2 := hkL.2.1; have ih := hkL.2.2;
  s_vret hz hr rfl rfl dX5_takeSet_191
def wp_X5_takeSet_185 (TT : PT) (P : Option Value → hp_T → Prop) (X : String → hp_T → Prop) : KT :=
  i_iload 2 (i_pushI 1 (i_iadd (i_callS 3 TT noX (wp_X5_takeSet_191 TT P X))))
set_option maxRecDepth 20000 in
theorem go_X5_takeSet_185 {TT : PT} {lv lvI : Nat} (hkL : lvI + 1 ≤ lv ∧ 5 ≤ lv ∧ CT yX5_takeSet cX5_takeSet 8 none lvI 0 0 TT) {z : zT} {P : Option Value → hp_T → Prop} {X : String → hp_T → Prop} (hz : Cx z cX5_takeSet 8 "Panelry$Reading" "takeSet" lv 0 0) (hr : Rt z none P X 0 0) : Go z 0 0 185 (wp_X5_takeSet_185 TT P X) := have hl1 := hkL.1; have hl2 := hkL.2.1; have ih := hkL.2.2;
  s_iload_n hz rfl dX5_takeSet_185 (s_iconst hz rfl dX5_takeSet_186 (s_iadd hz dX5_takeSet_187 (s_callS hz ih ⟨w168, w171, w49, by decide, by decide, by decide +kernel⟩ w170 (ble_of (by omega)) rfl rfl rfl out_no dX5_takeSet_188
    (go_X5_takeSet_191 hkL hz hr))))
def wp_X5_takeSet_160 (TT : PT) (P : Option Value → hp_T → Prop) (X : String → hp_T → Prop) : KT :=
  i_iload 2 (i_pushI 1 (i_iadd (i_callS 3 TT noX (i_aload 0 (i_aload 0 (i_getI 7 449 (i_ifeq (i_iload 1 (i_iload 7 (i_pushI (-1) (i_ixor (i_iand (wp_X5_takeSet_185 TT P X)))))) (i_iload 7
    (wp_X5_takeSet_185 TT P X)))))))))
set_option maxRecDepth 20000 in
theorem go_X5_takeSet_160 {TT : PT} {lv lvI : Nat} (hkL : lvI + 1 ≤ lv ∧ 5 ≤ lv ∧ CT yX5_takeSet cX5_takeSet 8 none lvI 0 0 TT) {z : zT} {P : Option Value → hp_T → Prop} {X : String → hp_T → Prop} (hz : Cx z cX5_takeSet 8 "Panelry$Reading" "takeSet" lv 0 0) (hr : Rt z none P X 0 0) : Go z 0 0 160 (wp_X5_takeSet_160 TT P X) := have hl1 := hkL.1; have hl2 := hkL.2.1; have ih := hkL.2.2;
  s_iload_n hz rfl dX5_takeSet_160 (s_iconst hz rfl dX5_takeSet_161 (s_iadd hz dX5_takeSet_162 (s_callS hz ih ⟨w168, w171, w49, by decide, by decide, by decide +kernel⟩ w170 (ble_of (by omega)) rfl rfl rfl out_no dX5_takeSet_163
    (s_aload_n hz rfl dX5_takeSet_166 (s_aload_n hz rfl dX5_takeSet_167 (fg_RX5_19 hz dX5_takeSet_168 (s_ifeq hz (tgt := 179) rfl dX5_takeSet_171 (s_iload_n hz rfl dX5_takeSet_179 (s_iload hz dX5_takeSet_180
    (s_iconst hz rfl dX5_takeSet_182 (s_ixor hz dX5_takeSet_183 (s_iand hz dX5_takeSet_184 (go_X5_takeSet_185 hkL hz hr)))))) (s_iload hz dX5_takeSet_174 (s_goto hz (tgt := 185) rfl dX5_takeSet_176
    (go_X5_takeSet_185 hkL hz hr))))))))))
def wp_X5_takeSet_90 (TT : PT) (P : Option Value → hp_T → Prop) (X : String → hp_T → Prop) : KT :=
  i_iload 5 (i_iload 6 (i_iclt (i_aload 0 (i_iload 1 (i_pushI 0 (i_iload 4 (i_callV 3 7 T_X5_endingBy noX (i_istore 7 (i_aload 0 (i_aload 0 (i_getI 7 449 (i_ifeq (i_iload 7 (wp_X5_takeSet_160 TT P X))
    (i_iload 1 (i_iload 7 (i_pushI (-1) (i_ixor (i_iand (wp_X5_takeSet_160 TT P X)))))))))))))))) (i_aload 0 (i_iload 1 (i_pushI 1 (i_iload 3 (i_callV 3 7 T_X5_endingBy noX (i_istore 7 (i_aload 0
    (i_iload 7 (i_iload 2 (i_pushI 1 (i_iadd (i_callS 3 TT noX (i_aload 0 (i_iload 1 (i_iload 7 (i_pushI (-1) (i_ixor (i_iand (i_iload 2 (i_pushI 1 (i_iadd (i_callS 3 TT noX (wp_X5_takeSet_191 TT P X)))))))))))))))))))))))))
set_option maxRecDepth 20000 in
theorem go_X5_takeSet_90 {TT : PT} {lv lvI : Nat} (hkL : lvI + 1 ≤ lv ∧ 5 ≤ lv ∧ CT yX5_takeSet cX5_takeSet 8 none lvI 0 0 TT) {z : zT} {P : Option Value → hp_T → Prop} {X : String → hp_T → Prop} (hz : Cx z cX5_takeSet 8 "Panelry$Reading" "takeSet" lv 0 0) (hr : Rt z none P X 0 0) : Go z 0 0 90 (wp_X5_takeSet_90 TT P X) := have hl1 := hkL.1; have hl2 := hkL.2.1; have ih := hkL.2.2;
  s_iload hz dX5_takeSet_90 (s_iload hz dX5_takeSet_92 (s_iclt hz (tgt := 131) rfl dX5_takeSet_94 (s_aload_n hz rfl dX5_takeSet_131 (s_iload_n hz rfl dX5_takeSet_132 (s_iconst hz rfl dX5_takeSet_133
    (s_iload hz dX5_takeSet_134 (s_callV hz ct_X5_endingBy ⟨w207, w210, w49, by decide, by decide, by decide +kernel⟩ w209 w4 cls6 rfl rfl (ble_of (by omega)) rfl rfl rfl out_no dX5_takeSet_136 (s_istore hz rfl dX5_takeSet_139
    (s_aload_n hz rfl dX5_takeSet_141 (s_aload_n hz rfl dX5_takeSet_142 (fg_RX5_19 hz dX5_takeSet_143 (s_ifeq hz (tgt := 158) rfl dX5_takeSet_146 (s_iload hz dX5_takeSet_158 (go_X5_takeSet_160 hkL hz hr))
    (s_iload_n hz rfl dX5_takeSet_149 (s_iload hz dX5_takeSet_150 (s_iconst hz rfl dX5_takeSet_152 (s_ixor hz dX5_takeSet_153 (s_iand hz dX5_takeSet_154 (s_goto hz (tgt := 160) rfl dX5_takeSet_155
    (go_X5_takeSet_160 hkL hz hr))))))))))))))))) (s_aload_n hz rfl dX5_takeSet_97 (s_iload_n hz rfl dX5_takeSet_98 (s_iconst hz rfl dX5_takeSet_99 (s_iload_n hz rfl dX5_takeSet_100 (s_callV hz ct_X5_endingBy ⟨w207, w210, w49, by decide, by decide, by decide +kernel⟩ w209 w4 cls6 rfl rfl (ble_of (by omega)) rfl rfl rfl out_no dX5_takeSet_101
    (s_istore hz rfl dX5_takeSet_104 (s_aload_n hz rfl dX5_takeSet_106 (s_iload hz dX5_takeSet_107 (s_iload_n hz rfl dX5_takeSet_109 (s_iconst hz rfl dX5_takeSet_110 (s_iadd hz dX5_takeSet_111
    (s_callS hz ih ⟨w168, w171, w49, by decide, by decide, by decide +kernel⟩ w170 (ble_of (by omega)) rfl rfl rfl out_no dX5_takeSet_112 (s_aload_n hz rfl dX5_takeSet_115 (s_iload_n hz rfl dX5_takeSet_116
    (s_iload hz dX5_takeSet_117 (s_iconst hz rfl dX5_takeSet_119 (s_ixor hz dX5_takeSet_120 (s_iand hz dX5_takeSet_121 (s_iload_n hz rfl dX5_takeSet_122 (s_iconst hz rfl dX5_takeSet_123 (s_iadd hz dX5_takeSet_124
    (s_callS hz ih ⟨w168, w171, w49, by decide, by decide, by decide +kernel⟩ w170 (ble_of (by omega)) rfl rfl rfl out_no dX5_takeSet_125 (s_goto hz (tgt := 191) rfl dX5_takeSet_128 (go_X5_takeSet_191 hkL hz hr))))))))))))))))))))))))))
def wp_X5_takeSet_71 (TT : PT) (P : Option Value → hp_T → Prop) (X : String → hp_T → Prop) : KT :=
  i_iload 3 (i_pushI (-1) (i_icne (wp_X5_takeSet_90 TT P X) (i_iload 4 (i_pushI (-1) (i_icne (wp_X5_takeSet_90 TT P X) (i_aload 0 (i_iload 1 (i_callV 1 7 T_X5_takeByNumber noX (wp_X5_takeSet_191 TT P X)))))))))
set_option maxRecDepth 20000 in
theorem go_X5_takeSet_71 {TT : PT} {lv lvI : Nat} (hkL : lvI + 1 ≤ lv ∧ 5 ≤ lv ∧ CT yX5_takeSet cX5_takeSet 8 none lvI 0 0 TT) {z : zT} {P : Option Value → hp_T → Prop} {X : String → hp_T → Prop} (hz : Cx z cX5_takeSet 8 "Panelry$Reading" "takeSet" lv 0 0) (hr : Rt z none P X 0 0) : Go z 0 0 71 (wp_X5_takeSet_71 TT P X) := have hl1 := hkL.1; have hl2 := hkL.2.1; have ih := hkL.2.2;
  s_iload_n hz rfl dX5_takeSet_71 (s_iconst hz rfl dX5_takeSet_72 (s_icne hz (tgt := 90) rfl dX5_takeSet_73 (go_X5_takeSet_90 hkL hz hr) (s_iload hz dX5_takeSet_76 (s_iconst hz rfl dX5_takeSet_78
    (s_icne hz (tgt := 90) rfl dX5_takeSet_79 (go_X5_takeSet_90 hkL hz hr) (s_aload_n hz rfl dX5_takeSet_82 (s_iload_n hz rfl dX5_takeSet_83 (s_callV hz ct_X5_takeByNumber ⟨w178, w181, w49, by decide, by decide, by decide +kernel⟩ w180 w1 cls6 rfl rfl (ble_of (by omega)) rfl rfl rfl out_no dX5_takeSet_84
    (s_goto hz (tgt := 191) rfl dX5_takeSet_87 (go_X5_takeSet_191 hkL hz hr))))))))))
def wp_X5_takeSet_0 (TT : PT) (P : Option Value → hp_T → Prop) (X : String → hp_T → Prop) : KT :=
  i_iload 1 (i_callS 1 T_J6_bitCount_0f7a4 noX (i_pushI 2 (i_iclt (wp_X5_takeSet_14 TT P X) (i_iload 2 (i_pushI 8 (i_iclt (i_aload 0 (i_iload 1 (i_pushI 1 (i_callV 2 7 T_X5_widestCut noX
    (i_istore 3 (i_aload 0 (i_iload 1 (i_pushI 0 (i_callV 2 7 T_X5_widestCut noX (i_istore 4 (i_aload 0 (i_iload 1 (i_pushI 1 (i_iload 3 (i_callV 3 7 T_X5_gutterAt noX (i_istore 5 (i_aload 0
    (i_iload 1 (i_pushI 0 (i_iload 4 (i_callV 3 7 T_X5_gutterAt noX (i_istore 6 (i_iload 5 (i_iload 6 (i_icne (wp_X5_takeSet_71 TT P X) (i_aload 0 (i_dup (i_getI 7 452 (i_pushI 1 (i_iadd
    (i_putI 7 452 (wp_X5_takeSet_71 TT P X)))))))))))))))))))))))))))))))) (wp_X5_takeSet_14 TT P X)))))))
set_option maxRecDepth 20000 in
theorem go_X5_takeSet_0 {TT : PT} {lv lvI : Nat} (hkL : lvI + 1 ≤ lv ∧ 5 ≤ lv ∧ CT yX5_takeSet cX5_takeSet 8 none lvI 0 0 TT) {z : zT} {P : Option Value → hp_T → Prop} {X : String → hp_T → Prop} (hz : Cx z cX5_takeSet 8 "Panelry$Reading" "takeSet" lv 0 0) (hr : Rt z none P X 0 0) : Go z 0 0 0 (wp_X5_takeSet_0 TT P X) := have hl1 := hkL.1; have hl2 := hkL.2.1; have ih := hkL.2.2;
  s_iload_n hz rfl dX5_takeSet_0 (s_callS hz ct_J6_bitCount_0f7a4 ⟨w172, w174, w50, by decide, by decide, by decide +kernel⟩ w173 (ble_of (by omega)) rfl rfl rfl out_no dX5_takeSet_1 (s_iconst hz rfl dX5_takeSet_4
    (s_iclt hz (tgt := 14) rfl dX5_takeSet_5 (go_X5_takeSet_14 hkL hz hr) (s_iload_n hz rfl dX5_takeSet_8 (s_bipush hz rfl dX5_takeSet_9 (s_iclt hz (tgt := 20) rfl dX5_takeSet_11 (s_aload_n hz rfl dX5_takeSet_20
    (s_iload_n hz rfl dX5_takeSet_21 (s_iconst hz rfl dX5_takeSet_22 (s_callV hz ct_X5_widestCut ⟨w186, w189, w49, by decide, by decide, by decide +kernel⟩ w188 w2 cls6 rfl rfl (ble_of (by omega)) rfl rfl rfl out_no dX5_takeSet_23
    (s_istore_n hz rfl rfl dX5_takeSet_26 (s_aload_n hz rfl dX5_takeSet_27 (s_iload_n hz rfl dX5_takeSet_28 (s_iconst hz rfl dX5_takeSet_29 (s_callV hz ct_X5_widestCut ⟨w186, w189, w49, by decide, by decide, by decide +kernel⟩ w188 w2 cls6 rfl rfl (ble_of (by omega)) rfl rfl rfl out_no dX5_takeSet_30
    (s_istore hz rfl dX5_takeSet_33 (s_aload_n hz rfl dX5_takeSet_35 (s_iload_n hz rfl dX5_takeSet_36 (s_iconst hz rfl dX5_takeSet_37 (s_iload_n hz rfl dX5_takeSet_38 (s_callV hz ct_X5_gutterAt ⟨w196, w199, w49, by decide, by decide, by decide +kernel⟩ w198 w3 cls6 rfl rfl (ble_of (by omega)) rfl rfl rfl out_no dX5_takeSet_39
    (s_istore hz rfl dX5_takeSet_42 (s_aload_n hz rfl dX5_takeSet_44 (s_iload_n hz rfl dX5_takeSet_45 (s_iconst hz rfl dX5_takeSet_46 (s_iload hz dX5_takeSet_47 (s_callV hz ct_X5_gutterAt ⟨w196, w199, w49, by decide, by decide, by decide +kernel⟩ w198 w3 cls6 rfl rfl (ble_of (by omega)) rfl rfl rfl out_no dX5_takeSet_49
    (s_istore hz rfl dX5_takeSet_52 (s_iload hz dX5_takeSet_54 (s_iload hz dX5_takeSet_56 (s_icne hz (tgt := 71) rfl dX5_takeSet_58 (go_X5_takeSet_71 hkL hz hr) (s_aload_n hz rfl dX5_takeSet_61
    (s_dup hz dX5_takeSet_62 (fg_RX5_71 hz dX5_takeSet_63 (s_iconst hz rfl dX5_takeSet_66 (s_iadd hz dX5_takeSet_67 (fp_RX5_71 hz dX5_takeSet_68 (go_X5_takeSet_71 hkL hz hr))))))))))))))))))))))))))))))))
    (go_X5_takeSet_14 hkL hz hr)))))))

set_option maxRecDepth 20000 in
theorem ts_0 : CT yX5_takeSet cX5_takeSet 8 none 5 0 0 (T_X5_takeSet 0) := by
  refine ct_ofE (by decide) (fun z av h P X hT hz hr => ?_) (fun av h P X hT => ?_)
  · unfold T_X5_takeSet at hT
    split at hT
    · rename_i r s dp
      have hF : CT yX5_takeSet cX5_takeSet 8 none 4 0 0 (fun _ _ _ _ => False) := fun l hl g av h P X hh => hh.elim
      refine ⟨_, go_X5_takeSet_0 (TT := fun _ _ _ _ => False) (lvI := 4) ⟨by omega, by omega, hF⟩ hz hr, ?_⟩
      show wp_X5_takeSet_0 (fun _ _ _ _ => False) P X [some (.ref r), some (.int s), some (.int dp), none, none, none, none, none] [] h
      obtain ⟨h0, L, d, rfl, hk, hL, rfl, hf, hp⟩ := hT
      have c8 : ¬ nI (8 - 0) < 8 := by decide
      have kr : hK h0 r = 7 := hk.1.1
      simp only [wp_X5_takeSet_14, wp_X5_takeSet_191, wp_X5_takeSet_185, wp_X5_takeSet_160, wp_X5_takeSet_90, wp_X5_takeSet_71, wp_X5_takeSet_0, hK_rd, kr, c8, T_J6_bitCount_0f7a4, T_X5_takeByNumber, i_mmax, i_mmin, i_pushI, i_pushN, i_pushL, i_iload, i_aload, i_istore, i_astore, i_iinc, i_iadd, i_isub, i_imul, i_iand, i_ior, i_ixor, i_ishl, i_ishr, i_iushr, i_idiv, i_i2l, i_lcmp, i_dup, i_pop, i_dupx1, i_dup2, i_ifeq, i_ifne, i_iflt, i_ifge, i_ifgt, i_ifle, i_iceq, i_icne, i_iclt, i_icge, i_icgt, i_icle, i_ifnull, i_aceq, i_getI, i_getR, i_putI, i_putZ, i_putR, i_new, i_newarr, i_ald, i_lald, i_aald, i_alen, i_ast, i_zast, i_last, i_aast, i_aastL, i_cast, i_gste, i_ldcM, i_getC, i_acopy, i_dead, i_objinit, i_callV, i_callS, i_callI, i_iret, i_zret, i_aret, i_vret, i_throw, popN, pushO, lget, lset, isRf_ref, isRf_null, isRf_rf, isC1_int, isC1_ref, isC1_null, isC1_rf, true_and, and_true, List.length_cons, List.length_nil, Nat.reduceAdd, Nat.reduceLeDiff, hK_sI, hN_sI, hR_sI, hI_sI, hK_sR, hN_sR, hR_sR, hI_sR, kC_2, kC_3, kC_4, kC_5, kC_6, kC_7, kC_8, kC_9, kC_10, kC_11, kC_20, kC_21, kC_22, kC_23, i2_0, i1_1, i0_1, i1_0, bI_and, bI_0, Decidable.not_not, not_false_eq_true, not_true_eq_false, forall_const, false_implies, true_implies, hK_copy, hN_copy, hI_copy, hC_sI, hC_sR, hC_new, hK_new, hN_new, hI_new, hR_new, rf_some, rf_none, ex_ref, ex_null, ex_rf, nref_null, rf_null, Nat.reduceEqDiff, reduceCtorEq, false_and, and_false, if_false, if_true, ne_eq, kO_150, kO_151, kO_152, kO_170, kO_180, kO_190, Value.ref.injEq, exists_eq_left', false_or]
      exact ⟨fun _ => ⟨h0, L, d, rfl, hk, hL, hp⟩, fun _ => ⟨h0, L, d, rfl, hk, hL, hp⟩⟩
    · exact hT.elim
  · unfold T_X5_takeSet at hT
    split at hT
    · exact ⟨Nat.le_of_ble_eq_true rfl, by simp [isC1_int, isC1_ref, isC1_null, isC1_rf]⟩
    · exact hT.elim
theorem ts_s {f : Nat} (ih : CT yX5_takeSet cX5_takeSet 8 none (5 + f) 0 0 (T_X5_takeSet f)) : CT yX5_takeSet cX5_takeSet 8 none (5 + f + 1) 0 0 (T_X5_takeSet (f + 1)) := by
  refine ct_ofE (by decide) (fun z av h P X hT hz hr => ?_) (fun av h P X hT => ?_)
  · unfold T_X5_takeSet at hT
    split at hT
    · rename_i r s dp
      refine ⟨_, go_X5_takeSet_0 (TT := T_X5_takeSet f) (lvI := 5 + f) ⟨by omega, by omega, ih⟩ hz hr, ?_⟩
      show wp_X5_takeSet_0 (T_X5_takeSet f) P X [some (.ref r), some (.int s), some (.int dp), none, none, none, none, none] [] h
      obtain ⟨h0, L, d, rfl, hk, hL, rfl, hf, hp⟩ := hT
      obtain ⟨hk2, e1, e2, e3, e4⟩ := rd_same hk L d
      have kr : hK h0 r = 7 := hk.1.1
      have lt8 : nI (8 - (f + 1)) < 8 := (ltI (a := 8 - (f + 1)) (b := 8) (by omega) (by omega)).mpr (by omega)
      have eI : hI (hrd h0 r (dR h0 450 r) L d) 452 r 0 = d := by rw [hI_rd, if_neg (fun z => absurd z.1 (by decide)), if_pos ⟨rfl, rfl, rfl⟩]
      have eL : ∀ L' d', hI (hrd h0 r (dR h0 450 r) L' d') 449 r 0 = hI h0 449 r 0 := fun _ _ => hI_rd0 _ _ _ _ _ (by decide) (by decide) (by decide)
      have kk : ∀ L' d', rdOK (hrd h0 r (dR h0 450 r) L' d') r := fun L' d' => (rd_same hk L' d').1
      have eC : ∀ L' d' s c, cutH (hrd h0 r (dR h0 450 r) L' d') r s c = cutH h0 r s c := fun L' d' s c => by
        obtain ⟨-, z1, z2, z3, -⟩ := rd_same hk L' d'
        unfold cutH
        rw [dR_rd, z1, z2, z3, eL]
      have eG : ∀ L' d' s c l, gutH (hrd h0 r (dR h0 450 r) L' d') r s c l = gutH h0 r s c l := fun L' d' s c l => by
        obtain ⟨-, z1, z2, z3, -⟩ := rd_same hk L' d'
        unfold gutH
        rw [dR_rd, z1, z2, z3]
      have eE : ∀ L' d' s c l, endH (hrd h0 r (dR h0 450 r) L' d') r s c l = endH h0 r s c l := fun L' d' s c l => by
        obtain ⟨-, z1, z2, z3, -⟩ := rd_same hk L' d'
        unfold endH
        rw [dR_rd, z1, z3]
      have hdep : nI (8 - (f + 1)) + 1 = nI (8 - f) := by rw [nI_1, show 8 - (f + 1) + 1 = 8 - f by omega]
      have hlen : ∀ g x L' d', L'.length ≤ 8 → (takeH h0 r g x L' d').1.length ≤ 8 := fun g x L' d' hl => takeR_len (fun _ _ hh => tbnL_len _ _ _ hh) _ _ _ _ hl
      have p1 : bcI s < 2 → P none (hrd h0 r (dR h0 450 r) (tbnL s (pnN h0 (dR h0 448 r)) 0 L) d) := fun c1 => by
        have := hp
        rw [show takeH h0 r (f + 1) s L d = (tbnL s (pnN h0 (dR h0 448 r)) 0 L, d) by unfold takeH; rw [takeR, if_pos c1]] at this
        exact this
      have p2 : ¬ bcI s < 2 → (cutH h0 r s 1 = -1 ∧ cutH h0 r s 0 = -1) → ∀ d', d' = (if gutH h0 r s 1 (cutH h0 r s 1) = gutH h0 r s 0 (cutH h0 r s 0) then d + 1 else d) → P none (hrd h0 r (dR h0 450 r) (tbnL s (pnN h0 (dR h0 448 r)) 0 L) d') := fun c1 c2 d' e => by
        have := hp
        rw [show takeH h0 r (f + 1) s L d = (tbnL s (pnN h0 (dR h0 448 r)) 0 L, d') by unfold takeH; rw [takeR, if_neg c1, if_pos c2, e]] at this
        exact this
      have p3 : ¬ bcI s < 2 → ¬ (cutH h0 r s 1 = -1 ∧ cutH h0 r s 0 = -1) → gutH h0 r s 0 (cutH h0 r s 0) ≤ gutH h0 r s 1 (cutH h0 r s 1) → ∀ d', d' = (if gutH h0 r s 1 (cutH h0 r s 1) = gutH h0 r s 0 (cutH h0 r s 0) then d + 1 else d) → P none (hrd h0 r (dR h0 450 r) (takeH h0 r f (s &&& (endH h0 r s 1 (cutH h0 r s 1) ^^^ -1)) (takeH h0 r f (endH h0 r s 1 (cutH h0 r s 1)) L d').1 (takeH h0 r f (endH h0 r s 1 (cutH h0 r s 1)) L d').2).1 (takeH h0 r f (s &&& (endH h0 r s 1 (cutH h0 r s 1) ^^^ -1)) (takeH h0 r f (endH h0 r s 1 (cutH h0 r s 1)) L d').1 (takeH h0 r f (endH h0 r s 1 (cutH h0 r s 1)) L d').2).2) := fun c1 c2 c3 d' e => by
        have := hp
        rw [show takeH h0 r (f + 1) s L d = takeH h0 r f (s &&& (endH h0 r s 1 (cutH h0 r s 1) ^^^ -1)) (takeH h0 r f (endH h0 r s 1 (cutH h0 r s 1)) L d').1 (takeH h0 r f (endH h0 r s 1 (cutH h0 r s 1)) L d').2 by unfold takeH; rw [takeR, if_neg c1, if_neg c2, if_pos c3, e]] at this
        exact this
      have p4 : ¬ bcI s < 2 → ¬ (cutH h0 r s 1 = -1 ∧ cutH h0 r s 0 = -1) → ¬ gutH h0 r s 0 (cutH h0 r s 0) ≤ gutH h0 r s 1 (cutH h0 r s 1) → hI h0 449 r 0 = 0 → ∀ d', d' = (if gutH h0 r s 1 (cutH h0 r s 1) = gutH h0 r s 0 (cutH h0 r s 0) then d + 1 else d) → P none (hrd h0 r (dR h0 450 r) (takeH h0 r f (s &&& (endH h0 r s 0 (cutH h0 r s 0) ^^^ -1)) (takeH h0 r f (endH h0 r s 0 (cutH h0 r s 0)) L d').1 (takeH h0 r f (endH h0 r s 0 (cutH h0 r s 0)) L d').2).1 (takeH h0 r f (s &&& (endH h0 r s 0 (cutH h0 r s 0) ^^^ -1)) (takeH h0 r f (endH h0 r s 0 (cutH h0 r s 0)) L d').1 (takeH h0 r f (endH h0 r s 0 (cutH h0 r s 0)) L d').2).2) := fun c1 c2 c3 c4 d' e => by
        have := hp
        rw [show takeH h0 r (f + 1) s L d = takeH h0 r f (s &&& (endH h0 r s 0 (cutH h0 r s 0) ^^^ -1)) (takeH h0 r f (endH h0 r s 0 (cutH h0 r s 0)) L d').1 (takeH h0 r f (endH h0 r s 0 (cutH h0 r s 0)) L d').2 by unfold takeH; rw [takeR, if_neg c1, if_neg c2, if_neg c3, if_pos c4, e]] at this
        exact this
      have p5 : ¬ bcI s < 2 → ¬ (cutH h0 r s 1 = -1 ∧ cutH h0 r s 0 = -1) → ¬ gutH h0 r s 0 (cutH h0 r s 0) ≤ gutH h0 r s 1 (cutH h0 r s 1) → ¬ hI h0 449 r 0 = 0 → ∀ d', d' = (if gutH h0 r s 1 (cutH h0 r s 1) = gutH h0 r s 0 (cutH h0 r s 0) then d + 1 else d) → P none (hrd h0 r (dR h0 450 r) (takeH h0 r f (endH h0 r s 0 (cutH h0 r s 0)) (takeH h0 r f (s &&& (endH h0 r s 0 (cutH h0 r s 0) ^^^ -1)) L d').1 (takeH h0 r f (s &&& (endH h0 r s 0 (cutH h0 r s 0) ^^^ -1)) L d').2).1 (takeH h0 r f (endH h0 r s 0 (cutH h0 r s 0)) (takeH h0 r f (s &&& (endH h0 r s 0 (cutH h0 r s 0) ^^^ -1)) L d').1 (takeH h0 r f (s &&& (endH h0 r s 0 (cutH h0 r s 0) ^^^ -1)) L d').2).2) := fun c1 c2 c3 c4 d' e => by
        have := hp
        rw [show takeH h0 r (f + 1) s L d = takeH h0 r f (endH h0 r s 0 (cutH h0 r s 0)) (takeH h0 r f (s &&& (endH h0 r s 0 (cutH h0 r s 0) ^^^ -1)) L d').1 (takeH h0 r f (s &&& (endH h0 r s 0 (cutH h0 r s 0) ^^^ -1)) L d').2 by unfold takeH; rw [takeR, if_neg c1, if_neg c2, if_neg c3, if_neg c4, e]] at this
        exact this
      clear hp
      simp only [wp_X5_takeSet_14, wp_X5_takeSet_191, wp_X5_takeSet_185, wp_X5_takeSet_160, wp_X5_takeSet_90, wp_X5_takeSet_71, wp_X5_takeSet_0, hK_rd, kr, lt8, T_J6_bitCount_0f7a4, T_X5_takeByNumber, T_X5_widestCut, T_X5_gutterAt, T_X5_endingBy, T_X5_takeSet, kk, eC, eG, eE, eI, eL, hrd_doubt, hdep, i_mmax, i_mmin, i_pushI, i_pushN, i_pushL, i_iload, i_aload, i_istore, i_astore, i_iinc, i_iadd, i_isub, i_imul, i_iand, i_ior, i_ixor, i_ishl, i_ishr, i_iushr, i_idiv, i_i2l, i_lcmp, i_dup, i_pop, i_dupx1, i_dup2, i_ifeq, i_ifne, i_iflt, i_ifge, i_ifgt, i_ifle, i_iceq, i_icne, i_iclt, i_icge, i_icgt, i_icle, i_ifnull, i_aceq, i_getI, i_getR, i_putI, i_putZ, i_putR, i_new, i_newarr, i_ald, i_lald, i_aald, i_alen, i_ast, i_zast, i_last, i_aast, i_aastL, i_cast, i_gste, i_ldcM, i_getC, i_acopy, i_dead, i_objinit, i_callV, i_callS, i_callI, i_iret, i_zret, i_aret, i_vret, i_throw, popN, pushO, lget, lset, isRf_ref, isRf_null, isRf_rf, isC1_int, isC1_ref, isC1_null, isC1_rf, true_and, and_true, List.length_cons, List.length_nil, Nat.reduceAdd, Nat.reduceLeDiff, hK_sI, hN_sI, hR_sI, hI_sI, hK_sR, hN_sR, hR_sR, hI_sR, kC_2, kC_3, kC_4, kC_5, kC_6, kC_7, kC_8, kC_9, kC_10, kC_11, kC_20, kC_21, kC_22, kC_23, i2_0, i1_1, i0_1, i1_0, bI_and, bI_0, Decidable.not_not, not_false_eq_true, not_true_eq_false, forall_const, false_implies, true_implies, hK_copy, hN_copy, hI_copy, hC_sI, hC_sR, hC_new, hK_new, hN_new, hI_new, hR_new, rf_some, rf_none, ex_ref, ex_null, ex_rf, nref_null, rf_null, Nat.reduceEqDiff, reduceCtorEq, false_and, and_false, if_false, if_true, ne_eq, kO_150, kO_151, kO_152, kO_170, kO_180, kO_190, Value.ref.injEq, exists_eq_left', false_or]
      generalize gutH h0 r s 1 (cutH h0 r s 1) = ga at p2 p3 p4 p5 ⊢
      generalize gutH h0 r s 0 (cutH h0 r s 0) = gd at p2 p3 p4 p5 ⊢
      generalize endH h0 r s 1 (cutH h0 r s 1) = ea at p3 p4 p5 ⊢
      generalize endH h0 r s 0 (cutH h0 r s 0) = ed at p3 p4 p5 ⊢
      generalize cutH h0 r s 1 = ac at p2 p3 p4 p5 ⊢
      generalize cutH h0 r s 0 = dw at p2 p3 p4 p5 ⊢
      have fin1 : ∀ x y d', (P none (hrd h0 r (dR h0 450 r) (takeH h0 r f y (takeH h0 r f x L d').1 (takeH h0 r f x L d').2).1 (takeH h0 r f y (takeH h0 r f x L d').1 (takeH h0 r f x L d').2).2)) → ∃ h0_2 L2 d2, hrd h0 r (dR h0 450 r) (takeH h0 r f x L d').1 (takeH h0 r f x L d').2 = hrd h0_2 r (dR h0_2 450 r) L2 d2 ∧ rdOK h0_2 r ∧ L2.length ≤ 8 ∧ f ≤ 8 ∧ P none (hrd h0_2 r (dR h0_2 450 r) (takeH h0_2 r f y L2 d2).1 (takeH h0_2 r f y L2 d2).2) := fun x y d' hh => ⟨h0, _, _, rfl, hk, hlen _ _ _ _ hL, by omega, hh⟩
      (repeat' (first | (apply And.intro) | (intro _)))
      all_goals first
        | exact ⟨h0, L, _, rfl, hk, hL, p1 (by assumption)⟩
        | exact ⟨h0, L, _, rfl, hk, hL, p2 (by assumption) ⟨by assumption, by assumption⟩ _ (by split <;> first | rfl | contradiction)⟩
        | exact ⟨h0, L, _, rfl, hk, hL, by omega, fin1 _ _ _ (p3 (by assumption) (by rintro ⟨z1, z2⟩; contradiction) (Int32.not_lt.mp (by assumption)) _ (by split <;> first | rfl | contradiction))⟩
        | (refine ⟨h0, L, _, rfl, hk, hL, by omega, kr, fun c => ?_, fun c => ?_⟩ <;> rw [eL] at c <;> first
          | contradiction
          | exact fin1 _ _ _ (p4 (by assumption) (by rintro ⟨z1, z2⟩; contradiction) (Int32.not_le.mpr (by assumption)) (by assumption) _ (by split <;> first | rfl | contradiction))
          | exact fin1 _ _ _ (p5 (by assumption) (by rintro ⟨z1, z2⟩; contradiction) (Int32.not_le.mpr (by assumption)) (by assumption) _ (by split <;> first | rfl | contradiction)))
    · exact hT.elim
  · unfold T_X5_takeSet at hT
    split at hT
    · exact ⟨Nat.le_of_ble_eq_true rfl, by simp [isC1_int, isC1_ref, isC1_null, isC1_rf]⟩
    · exact hT.elim
theorem ts_all : ∀ f, CT yX5_takeSet cX5_takeSet 8 none (5 + f) 0 0 (T_X5_takeSet f)
  | 0 => ts_0
  | f + 1 => ts_s (ts_all f)
def T_X5_takeSet8 : PT := T_X5_takeSet 8
theorem ct_X5_takeSet8 : CT yX5_takeSet cX5_takeSet 8 none 13 0 0 T_X5_takeSet8 := ts_all 8
noncomputable def takeG (n : Nat) (B E : Int32 → Nat → Int32) (l : Int32) : Nat → Int32 → List Nat → Int32 → List Nat × Int32 :=
  takeR (fun s L => tbnL s n 0 L) (fun s => cutL n (B 1) (E 1) s (bI (¬ l = 0 ∧ (1 : Int32) = 0)) n 0 (-1) (-1)) (fun s => cutL n (B 0) (E 0) s (bI (¬ l = 0 ∧ (0 : Int32) = 0)) n 0 (-1) (-1))
    (fun s => gut n (B 1) (E 1) s (cutL n (B 1) (E 1) s (bI (¬ l = 0 ∧ (1 : Int32) = 0)) n 0 (-1) (-1))) (fun s => gut n (B 0) (E 0) s (cutL n (B 0) (E 0) s (bI (¬ l = 0 ∧ (0 : Int32) = 0)) n 0 (-1) (-1)))
    (fun s => endL (E 1) s (cutL n (B 1) (E 1) s (bI (¬ l = 0 ∧ (1 : Int32) = 0)) n 0 (-1) (-1)) n 0 0) (fun s => endL (E 0) s (cutL n (B 0) (E 0) s (bI (¬ l = 0 ∧ (0 : Int32) = 0)) n 0 (-1) (-1)) n 0 0) l
theorem takeH_G (h : hp_T) (r : Nat) : takeH h r = takeG (pnN h (dR h 448 r)) (pBeg h (dR h 448 r)) (pEnd h (dR h 448 r)) (hI h 449 r 0) := rfl
/-- the reading of a page: the places, and the doubts -/
noncomputable def readG (n : Nat) (B E : Int32 → Nat → Int32) (l : Int32) : List Nat × Int32 := takeG n B E l 8 (nI (2 ^ n - 1)) [] 0
