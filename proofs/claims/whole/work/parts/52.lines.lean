def wp_X9_cross_253 (P : Option Value → hp_T → Prop) (X : String → hp_T → Prop) : KT :=
  i_zret P
set_option maxRecDepth 20000 in
theorem go_X9_cross_253 {z : zT} {P : Option Value → hp_T → Prop} {X : String → hp_T → Prop} (hz : Cx z cX9_cross 13 "PanelryModel" "cross" 1 0 0) (hr : Rt z (some .boolean) P X 0 0) : Go z 0 0 253 (wp_X9_cross_253 P X) := 
  s_zret hz hr rfl rfl dX9_cross_253
def wp_X9_cross_248 (P : Option Value → hp_T → Prop) (X : String → hp_T → Prop) : KT :=
  i_pushI 1 (wp_X9_cross_253 P X)
set_option maxRecDepth 20000 in
theorem go_X9_cross_248 {z : zT} {P : Option Value → hp_T → Prop} {X : String → hp_T → Prop} (hz : Cx z cX9_cross 13 "PanelryModel" "cross" 1 0 0) (hr : Rt z (some .boolean) P X 0 0) : Go z 0 0 248 (wp_X9_cross_248 P X) := 
  s_iconst hz rfl dX9_cross_248 (s_goto hz (tgt := 253) rfl dX9_cross_249 (go_X9_cross_253 hz hr))
def wp_X9_cross_252 (P : Option Value → hp_T → Prop) (X : String → hp_T → Prop) : KT :=
  i_pushI 0 (wp_X9_cross_253 P X)
set_option maxRecDepth 20000 in
theorem go_X9_cross_252 {z : zT} {P : Option Value → hp_T → Prop} {X : String → hp_T → Prop} (hz : Cx z cX9_cross 13 "PanelryModel" "cross" 1 0 0) (hr : Rt z (some .boolean) P X 0 0) : Go z 0 0 252 (wp_X9_cross_252 P X) := 
  s_iconst hz rfl dX9_cross_252 (go_X9_cross_253 hz hr)
def wp_X9_cross_214 (P : Option Value → hp_T → Prop) (X : String → hp_T → Prop) : KT :=
  i_istore 12 (i_iload 12 (i_ifne (wp_X9_cross_248 P X) (i_iload 11 (i_ifne (wp_X9_cross_252 P X) (i_iload 2 (i_iload 4 (i_iload 6 (i_callS 3 T_X9_isBetween noX (i_ifeq (wp_X9_cross_252 P X)
    (i_iload 3 (i_iload 5 (i_iload 7 (i_callS 3 T_X9_isBetween noX (i_ifeq (wp_X9_cross_252 P X) (wp_X9_cross_248 P X)))))))))))))))
set_option maxRecDepth 20000 in
theorem go_X9_cross_214 {z : zT} {P : Option Value → hp_T → Prop} {X : String → hp_T → Prop} (hz : Cx z cX9_cross 13 "PanelryModel" "cross" 1 0 0) (hr : Rt z (some .boolean) P X 0 0) : Go z 0 0 214 (wp_X9_cross_214 P X) := 
  s_istore hz rfl dX9_cross_214 (s_iload hz dX9_cross_216 (s_ifne hz (tgt := 248) rfl dX9_cross_218 (go_X9_cross_248 hz hr) (s_iload hz dX9_cross_221 (s_ifne hz (tgt := 252) rfl dX9_cross_223
    (go_X9_cross_252 hz hr) (s_iload_n hz rfl dX9_cross_226 (s_iload hz dX9_cross_227 (s_iload hz dX9_cross_229 (s_callS hz ct_X9_isBetween ⟨w1168, w1170, w33, by decide, by decide, by decide +kernel⟩ w1169 rfl rfl rfl rfl out_no dX9_cross_231
    (s_ifeq hz (tgt := 252) rfl dX9_cross_234 (go_X9_cross_252 hz hr) (s_iload_n hz rfl dX9_cross_237 (s_iload hz dX9_cross_238 (s_iload hz dX9_cross_240 (s_callS hz ct_X9_isBetween ⟨w1168, w1170, w33, by decide, by decide, by decide +kernel⟩ w1169 rfl rfl rfl rfl out_no dX9_cross_242
    (s_ifeq hz (tgt := 252) rfl dX9_cross_245 (go_X9_cross_252 hz hr) (go_X9_cross_248 hz hr)))))))))))))))
def wp_X9_cross_209 (P : Option Value → hp_T → Prop) (X : String → hp_T → Prop) : KT :=
  i_pushI 1 (wp_X9_cross_214 P X)
set_option maxRecDepth 20000 in
theorem go_X9_cross_209 {z : zT} {P : Option Value → hp_T → Prop} {X : String → hp_T → Prop} (hz : Cx z cX9_cross 13 "PanelryModel" "cross" 1 0 0) (hr : Rt z (some .boolean) P X 0 0) : Go z 0 0 209 (wp_X9_cross_209 P X) := 
  s_iconst hz rfl dX9_cross_209 (s_goto hz (tgt := 214) rfl dX9_cross_210 (go_X9_cross_214 hz hr))
def wp_X9_cross_213 (P : Option Value → hp_T → Prop) (X : String → hp_T → Prop) : KT :=
  i_pushI 0 (wp_X9_cross_214 P X)
set_option maxRecDepth 20000 in
theorem go_X9_cross_213 {z : zT} {P : Option Value → hp_T → Prop} {X : String → hp_T → Prop} (hz : Cx z cX9_cross 13 "PanelryModel" "cross" 1 0 0) (hr : Rt z (some .boolean) P X 0 0) : Go z 0 0 213 (wp_X9_cross_213 P X) := 
  s_iconst hz rfl dX9_cross_213 (go_X9_cross_214 hz hr)
def wp_X9_cross_175 (P : Option Value → hp_T → Prop) (X : String → hp_T → Prop) : KT :=
  i_istore 12 (i_iload 12 (i_ifne (wp_X9_cross_209 P X) (i_iload 10 (i_ifne (wp_X9_cross_213 P X) (i_iload 0 (i_iload 4 (i_iload 6 (i_callS 3 T_X9_isBetween noX (i_ifeq (wp_X9_cross_213 P X)
    (i_iload 1 (i_iload 5 (i_iload 7 (i_callS 3 T_X9_isBetween noX (i_ifeq (wp_X9_cross_213 P X) (wp_X9_cross_209 P X)))))))))))))))
set_option maxRecDepth 20000 in
theorem go_X9_cross_175 {z : zT} {P : Option Value → hp_T → Prop} {X : String → hp_T → Prop} (hz : Cx z cX9_cross 13 "PanelryModel" "cross" 1 0 0) (hr : Rt z (some .boolean) P X 0 0) : Go z 0 0 175 (wp_X9_cross_175 P X) := 
  s_istore hz rfl dX9_cross_175 (s_iload hz dX9_cross_177 (s_ifne hz (tgt := 209) rfl dX9_cross_179 (go_X9_cross_209 hz hr) (s_iload hz dX9_cross_182 (s_ifne hz (tgt := 213) rfl dX9_cross_184
    (go_X9_cross_213 hz hr) (s_iload_n hz rfl dX9_cross_187 (s_iload hz dX9_cross_188 (s_iload hz dX9_cross_190 (s_callS hz ct_X9_isBetween ⟨w1168, w1170, w33, by decide, by decide, by decide +kernel⟩ w1169 rfl rfl rfl rfl out_no dX9_cross_192
    (s_ifeq hz (tgt := 213) rfl dX9_cross_195 (go_X9_cross_213 hz hr) (s_iload_n hz rfl dX9_cross_198 (s_iload hz dX9_cross_199 (s_iload hz dX9_cross_201 (s_callS hz ct_X9_isBetween ⟨w1168, w1170, w33, by decide, by decide, by decide +kernel⟩ w1169 rfl rfl rfl rfl out_no dX9_cross_203
    (s_ifeq hz (tgt := 213) rfl dX9_cross_206 (go_X9_cross_213 hz hr) (go_X9_cross_209 hz hr)))))))))))))))
def wp_X9_cross_170 (P : Option Value → hp_T → Prop) (X : String → hp_T → Prop) : KT :=
  i_pushI 1 (wp_X9_cross_175 P X)
set_option maxRecDepth 20000 in
theorem go_X9_cross_170 {z : zT} {P : Option Value → hp_T → Prop} {X : String → hp_T → Prop} (hz : Cx z cX9_cross 13 "PanelryModel" "cross" 1 0 0) (hr : Rt z (some .boolean) P X 0 0) : Go z 0 0 170 (wp_X9_cross_170 P X) := 
  s_iconst hz rfl dX9_cross_170 (s_goto hz (tgt := 175) rfl dX9_cross_171 (go_X9_cross_175 hz hr))
def wp_X9_cross_174 (P : Option Value → hp_T → Prop) (X : String → hp_T → Prop) : KT :=
  i_pushI 0 (wp_X9_cross_175 P X)
set_option maxRecDepth 20000 in
theorem go_X9_cross_174 {z : zT} {P : Option Value → hp_T → Prop} {X : String → hp_T → Prop} (hz : Cx z cX9_cross 13 "PanelryModel" "cross" 1 0 0) (hr : Rt z (some .boolean) P X 0 0) : Go z 0 0 174 (wp_X9_cross_174 P X) := 
  s_iconst hz rfl dX9_cross_174 (go_X9_cross_175 hz hr)
def wp_X9_cross_138 (P : Option Value → hp_T → Prop) (X : String → hp_T → Prop) : KT :=
  i_istore 12 (i_iload 12 (i_ifne (wp_X9_cross_170 P X) (i_iload 9 (i_ifne (wp_X9_cross_174 P X) (i_iload 6 (i_iload 0 (i_iload 2 (i_callS 3 T_X9_isBetween noX (i_ifeq (wp_X9_cross_174 P X)
    (i_iload 7 (i_iload 1 (i_iload 3 (i_callS 3 T_X9_isBetween noX (i_ifeq (wp_X9_cross_174 P X) (wp_X9_cross_170 P X)))))))))))))))
set_option maxRecDepth 20000 in
theorem go_X9_cross_138 {z : zT} {P : Option Value → hp_T → Prop} {X : String → hp_T → Prop} (hz : Cx z cX9_cross 13 "PanelryModel" "cross" 1 0 0) (hr : Rt z (some .boolean) P X 0 0) : Go z 0 0 138 (wp_X9_cross_138 P X) := 
  s_istore hz rfl dX9_cross_138 (s_iload hz dX9_cross_140 (s_ifne hz (tgt := 170) rfl dX9_cross_142 (go_X9_cross_170 hz hr) (s_iload hz dX9_cross_145 (s_ifne hz (tgt := 174) rfl dX9_cross_147
    (go_X9_cross_174 hz hr) (s_iload hz dX9_cross_150 (s_iload_n hz rfl dX9_cross_152 (s_iload_n hz rfl dX9_cross_153 (s_callS hz ct_X9_isBetween ⟨w1168, w1170, w33, by decide, by decide, by decide +kernel⟩ w1169 rfl rfl rfl rfl out_no dX9_cross_154
    (s_ifeq hz (tgt := 174) rfl dX9_cross_157 (go_X9_cross_174 hz hr) (s_iload hz dX9_cross_160 (s_iload_n hz rfl dX9_cross_162 (s_iload_n hz rfl dX9_cross_163 (s_callS hz ct_X9_isBetween ⟨w1168, w1170, w33, by decide, by decide, by decide +kernel⟩ w1169 rfl rfl rfl rfl out_no dX9_cross_164
    (s_ifeq hz (tgt := 174) rfl dX9_cross_167 (go_X9_cross_174 hz hr) (go_X9_cross_170 hz hr)))))))))))))))
def wp_X9_cross_133 (P : Option Value → hp_T → Prop) (X : String → hp_T → Prop) : KT :=
  i_pushI 1 (wp_X9_cross_138 P X)
set_option maxRecDepth 20000 in
theorem go_X9_cross_133 {z : zT} {P : Option Value → hp_T → Prop} {X : String → hp_T → Prop} (hz : Cx z cX9_cross 13 "PanelryModel" "cross" 1 0 0) (hr : Rt z (some .boolean) P X 0 0) : Go z 0 0 133 (wp_X9_cross_133 P X) := 
  s_iconst hz rfl dX9_cross_133 (s_goto hz (tgt := 138) rfl dX9_cross_134 (go_X9_cross_138 hz hr))
def wp_X9_cross_137 (P : Option Value → hp_T → Prop) (X : String → hp_T → Prop) : KT :=
  i_pushI 0 (wp_X9_cross_138 P X)
set_option maxRecDepth 20000 in
theorem go_X9_cross_137 {z : zT} {P : Option Value → hp_T → Prop} {X : String → hp_T → Prop} (hz : Cx z cX9_cross 13 "PanelryModel" "cross" 1 0 0) (hr : Rt z (some .boolean) P X 0 0) : Go z 0 0 137 (wp_X9_cross_137 P X) := 
  s_iconst hz rfl dX9_cross_137 (go_X9_cross_138 hz hr)
def wp_X9_cross_101 (P : Option Value → hp_T → Prop) (X : String → hp_T → Prop) : KT :=
  i_istore 12 (i_iload 12 (i_ifne (wp_X9_cross_133 P X) (i_iload 8 (i_ifne (wp_X9_cross_137 P X) (i_iload 4 (i_iload 0 (i_iload 2 (i_callS 3 T_X9_isBetween noX (i_ifeq (wp_X9_cross_137 P X)
    (i_iload 5 (i_iload 1 (i_iload 3 (i_callS 3 T_X9_isBetween noX (i_ifeq (wp_X9_cross_137 P X) (wp_X9_cross_133 P X)))))))))))))))
set_option maxRecDepth 20000 in
theorem go_X9_cross_101 {z : zT} {P : Option Value → hp_T → Prop} {X : String → hp_T → Prop} (hz : Cx z cX9_cross 13 "PanelryModel" "cross" 1 0 0) (hr : Rt z (some .boolean) P X 0 0) : Go z 0 0 101 (wp_X9_cross_101 P X) := 
  s_istore hz rfl dX9_cross_101 (s_iload hz dX9_cross_103 (s_ifne hz (tgt := 133) rfl dX9_cross_105 (go_X9_cross_133 hz hr) (s_iload hz dX9_cross_108 (s_ifne hz (tgt := 137) rfl dX9_cross_110
    (go_X9_cross_137 hz hr) (s_iload hz dX9_cross_113 (s_iload_n hz rfl dX9_cross_115 (s_iload_n hz rfl dX9_cross_116 (s_callS hz ct_X9_isBetween ⟨w1168, w1170, w33, by decide, by decide, by decide +kernel⟩ w1169 rfl rfl rfl rfl out_no dX9_cross_117
    (s_ifeq hz (tgt := 137) rfl dX9_cross_120 (go_X9_cross_137 hz hr) (s_iload hz dX9_cross_123 (s_iload_n hz rfl dX9_cross_125 (s_iload_n hz rfl dX9_cross_126 (s_callS hz ct_X9_isBetween ⟨w1168, w1170, w33, by decide, by decide, by decide +kernel⟩ w1169 rfl rfl rfl rfl out_no dX9_cross_127
    (s_ifeq hz (tgt := 137) rfl dX9_cross_130 (go_X9_cross_137 hz hr) (go_X9_cross_133 hz hr)))))))))))))))
def wp_X9_cross_96 (P : Option Value → hp_T → Prop) (X : String → hp_T → Prop) : KT :=
  i_pushI 1 (wp_X9_cross_101 P X)
set_option maxRecDepth 20000 in
theorem go_X9_cross_96 {z : zT} {P : Option Value → hp_T → Prop} {X : String → hp_T → Prop} (hz : Cx z cX9_cross 13 "PanelryModel" "cross" 1 0 0) (hr : Rt z (some .boolean) P X 0 0) : Go z 0 0 96 (wp_X9_cross_96 P X) := 
  s_iconst hz rfl dX9_cross_96 (s_goto hz (tgt := 101) rfl dX9_cross_97 (go_X9_cross_101 hz hr))
def wp_X9_cross_100 (P : Option Value → hp_T → Prop) (X : String → hp_T → Prop) : KT :=
  i_pushI 0 (wp_X9_cross_101 P X)
set_option maxRecDepth 20000 in
theorem go_X9_cross_100 {z : zT} {P : Option Value → hp_T → Prop} {X : String → hp_T → Prop} (hz : Cx z cX9_cross 13 "PanelryModel" "cross" 1 0 0) (hr : Rt z (some .boolean) P X 0 0) : Go z 0 0 100 (wp_X9_cross_100 P X) := 
  s_iconst hz rfl dX9_cross_100 (go_X9_cross_101 hz hr)
def wp_X9_cross_0 (P : Option Value → hp_T → Prop) (X : String → hp_T → Prop) : KT :=
  i_iload 0 (i_iload 1 (i_iload 2 (i_iload 3 (i_iload 4 (i_iload 5 (i_callS 6 T_X9_turnOf noX (i_istore 8 (i_iload 0 (i_iload 1 (i_iload 2 (i_iload 3 (i_iload 6 (i_iload 7 (i_callS 6 T_X9_turnOf noX
    (i_istore 9 (i_iload 4 (i_iload 5 (i_iload 6 (i_iload 7 (i_iload 0 (i_iload 1 (i_callS 6 T_X9_turnOf noX (i_istore 10 (i_iload 4 (i_iload 5 (i_iload 6 (i_iload 7 (i_iload 2 (i_iload 3
    (i_callS 6 T_X9_turnOf noX (i_istore 11 (i_iload 8 (i_iload 9 (i_iceq (wp_X9_cross_100 P X) (i_iload 10 (i_iload 11 (i_iceq (wp_X9_cross_100 P X) (i_iload 8 (i_iload 9 (i_imul (i_ifgt
    (wp_X9_cross_100 P X) (i_iload 10 (i_iload 11 (i_imul (i_ifgt (wp_X9_cross_100 P X) (i_iload 8 (i_ifne (wp_X9_cross_96 P X) (i_iload 9 (i_ifeq (wp_X9_cross_100 P X) (wp_X9_cross_96 P X))))))))))))))))))))))))))))))))))))))))))))))))))
set_option maxRecDepth 20000 in
theorem go_X9_cross_0 {z : zT} {P : Option Value → hp_T → Prop} {X : String → hp_T → Prop} (hz : Cx z cX9_cross 13 "PanelryModel" "cross" 1 0 0) (hr : Rt z (some .boolean) P X 0 0) : Go z 0 0 0 (wp_X9_cross_0 P X) := 
  s_iload_n hz rfl dX9_cross_0 (s_iload_n hz rfl dX9_cross_1 (s_iload_n hz rfl dX9_cross_2 (s_iload_n hz rfl dX9_cross_3 (s_iload hz dX9_cross_4 (s_iload hz dX9_cross_6 (s_callS hz ct_X9_turnOf ⟨w1174, w1176, w33, by decide, by decide, by decide +kernel⟩ w1175 rfl rfl rfl rfl out_no dX9_cross_8
    (s_istore hz rfl dX9_cross_11 (s_iload_n hz rfl dX9_cross_13 (s_iload_n hz rfl dX9_cross_14 (s_iload_n hz rfl dX9_cross_15 (s_iload_n hz rfl dX9_cross_16 (s_iload hz dX9_cross_17 (s_iload hz dX9_cross_19
    (s_callS hz ct_X9_turnOf ⟨w1174, w1176, w33, by decide, by decide, by decide +kernel⟩ w1175 rfl rfl rfl rfl out_no dX9_cross_21 (s_istore hz rfl dX9_cross_24 (s_iload hz dX9_cross_26
    (s_iload hz dX9_cross_28 (s_iload hz dX9_cross_30 (s_iload hz dX9_cross_32 (s_iload_n hz rfl dX9_cross_34 (s_iload_n hz rfl dX9_cross_35 (s_callS hz ct_X9_turnOf ⟨w1174, w1176, w33, by decide, by decide, by decide +kernel⟩ w1175 rfl rfl rfl rfl out_no dX9_cross_36
    (s_istore hz rfl dX9_cross_39 (s_iload hz dX9_cross_41 (s_iload hz dX9_cross_43 (s_iload hz dX9_cross_45 (s_iload hz dX9_cross_47 (s_iload_n hz rfl dX9_cross_49 (s_iload_n hz rfl dX9_cross_50
    (s_callS hz ct_X9_turnOf ⟨w1174, w1176, w33, by decide, by decide, by decide +kernel⟩ w1175 rfl rfl rfl rfl out_no dX9_cross_51 (s_istore hz rfl dX9_cross_54 (s_iload hz dX9_cross_56
    (s_iload hz dX9_cross_58 (s_iceq hz (tgt := 100) rfl dX9_cross_60 (go_X9_cross_100 hz hr) (s_iload hz dX9_cross_63 (s_iload hz dX9_cross_65 (s_iceq hz (tgt := 100) rfl dX9_cross_67 (go_X9_cross_100 hz hr)
    (s_iload hz dX9_cross_70 (s_iload hz dX9_cross_72 (s_imul hz dX9_cross_74 (s_ifgt hz (tgt := 100) rfl dX9_cross_75 (go_X9_cross_100 hz hr) (s_iload hz dX9_cross_78 (s_iload hz dX9_cross_80
    (s_imul hz dX9_cross_82 (s_ifgt hz (tgt := 100) rfl dX9_cross_83 (go_X9_cross_100 hz hr) (s_iload hz dX9_cross_86 (s_ifne hz (tgt := 96) rfl dX9_cross_88 (go_X9_cross_96 hz hr) (s_iload hz dX9_cross_91
    (s_ifeq hz (tgt := 100) rfl dX9_cross_93 (go_X9_cross_100 hz hr) (go_X9_cross_96 hz hr))))))))))))))))))))))))))))))))))))))))))))))))))

def T_X9_cross : PT := fun av h P X => match av with
  | [.int a, .int b, .int c, .int d, .int e, .int f, .int g, .int i] => (True) ∧ (P (some (.int (bI (crs a b c d e f g i)))) h)
  | _ => False
theorem tx_X9_cross (a : Int32) (b : Int32) (c : Int32) (d : Int32) (e : Int32) (f : Int32) (g : Int32) (i : Int32) (h : hp_T) (P : Option Value → hp_T → Prop) (X : String → hp_T → Prop) : T_X9_cross [.int a, .int b, .int c, .int d, .int e, .int f, .int g, .int i] h P X = ((True) ∧ (P (some (.int (bI (crs a b c d e f g i)))) h)) := rfl
set_option maxRecDepth 20000 in
theorem ct_X9_cross : CT yX9_cross cX9_cross 13 (some .boolean) 1 0 0 T_X9_cross := by
  refine ct_ofE (by decide) (fun z av h P X hT hz hr => ?_) (fun av h P X hT => ?_)
  · unfold T_X9_cross at hT
    split at hT
    · refine ⟨_, go_X9_cross_0 hz hr, ?_⟩
      rename_i a b c d e f g i
      show wp_X9_cross_0 P X [some (.int a), some (.int b), some (.int c), some (.int d), some (.int e), some (.int f), some (.int g), some (.int i), none, none, none, none, none] [] h
      obtain ⟨hk, hp⟩ := hT
      unfold crs at hp
      simp only [wp_X9_cross_0, wp_X9_cross_96, wp_X9_cross_100, T_X9_turnOf, i_mmax, i_mmin, i_pushI, i_pushN, i_pushL, i_iload, i_aload, i_istore, i_astore, i_iinc, i_iadd, i_isub, i_imul, i_iand, i_ior, i_ixor, i_ishl, i_ishr, i_iushr, i_idiv, i_i2l, i_lcmp, i_dup, i_pop, i_dupx1, i_dup2, i_ifeq, i_ifne, i_iflt, i_ifge, i_ifgt, i_ifle, i_iceq, i_icne, i_iclt, i_icge, i_icgt, i_icle, i_ifnull, i_aceq, i_getI, i_getR, i_putI, i_putZ, i_putR, i_new, i_newarr, i_ald, i_lald, i_aald, i_alen, i_ast, i_zast, i_last, i_aast, i_aastL, i_cast, i_gste, i_ldcM, i_getC, i_acopy, i_dead, i_objinit, i_callV, i_callS, i_callI, i_iret, i_zret, i_aret, i_vret, i_throw, popN, pushO, lget, lset, isRf_ref, isRf_null, isRf_rf, isC1_int, isC1_ref, isC1_null, isC1_rf, true_and, and_true, List.length_cons, List.length_nil, Nat.reduceAdd, Nat.reduceLeDiff, hK_sI, hN_sI, hR_sI, hI_sI, hK_sR, hN_sR, hR_sR, hI_sR, kC_2, kC_3, kC_4, kC_5, kC_6, kC_7, kC_8, kC_9, kC_10, kC_11, kC_20, kC_21, kC_22, kC_23, i2_0, i1_1, i0_1, i1_0, bI_and, bI_0, Decidable.not_not, not_false_eq_true, not_true_eq_false, forall_const, false_implies, true_implies, hK_copy, hN_copy, hI_copy, hC_sI, hC_sR, hC_new, hK_new, hN_new, hI_new, hR_new, rf_some, rf_none, ex_ref, ex_null, ex_rf, nref_null, rf_null, Nat.reduceEqDiff, reduceCtorEq, false_and, and_false, if_false, if_true, ne_eq, kO_150, kO_151, kO_152, kO_170, kO_180, kO_190, Value.ref.injEq, exists_eq_left', false_or]
      generalize trn a b c d e f = t1 at hp ⊢
      generalize trn a b c d g i = t2 at hp ⊢
      generalize trn e f g i a b = t3 at hp ⊢
      generalize trn e f g i c d = t4 at hp ⊢
      unfold crsT at hp
      have k3 : ∀ (o : Option Value) (v : Int32), v = bI (((((¬ t1 = t2 ∧ ¬ t3 = t4 ∧ t1 * t2 ≤ 0 ∧ t3 * t4 ≤ 0 ∧ ¬ (t1 = 0 ∧ t2 = 0)) ∨ (t1 = 0 ∧ btw e a c ∧ btw f b d)) ∨ (t2 = 0 ∧ btw g a c ∧ btw i b d)) ∨ (t3 = 0 ∧ btw a e g ∧ btw b f i))) → wp_X9_cross_214 P X [some (.int a), some (.int b), some (.int c), some (.int d), some (.int e), some (.int f), some (.int g), some (.int i), some (.int t1), some (.int t2), some (.int t3), some (.int t4), o] [.int v] h := by
        rintro o _ rfl
        simp only [wp_X9_cross_214, wp_X9_cross_248, wp_X9_cross_252, wp_X9_cross_253, T_X9_isBetween, i_mmax, i_mmin, i_pushI, i_pushN, i_pushL, i_iload, i_aload, i_istore, i_astore, i_iinc, i_iadd, i_isub, i_imul, i_iand, i_ior, i_ixor, i_ishl, i_ishr, i_iushr, i_idiv, i_i2l, i_lcmp, i_dup, i_pop, i_dupx1, i_dup2, i_ifeq, i_ifne, i_iflt, i_ifge, i_ifgt, i_ifle, i_iceq, i_icne, i_iclt, i_icge, i_icgt, i_icle, i_ifnull, i_aceq, i_getI, i_getR, i_putI, i_putZ, i_putR, i_new, i_newarr, i_ald, i_lald, i_aald, i_alen, i_ast, i_zast, i_last, i_aast, i_aastL, i_cast, i_gste, i_ldcM, i_getC, i_acopy, i_dead, i_objinit, i_callV, i_callS, i_callI, i_iret, i_zret, i_aret, i_vret, i_throw, popN, pushO, lget, lset, isRf_ref, isRf_null, isRf_rf, isC1_int, isC1_ref, isC1_null, isC1_rf, true_and, and_true, List.length_cons, List.length_nil, Nat.reduceAdd, Nat.reduceLeDiff, hK_sI, hN_sI, hR_sI, hI_sI, hK_sR, hN_sR, hR_sR, hI_sR, kC_2, kC_3, kC_4, kC_5, kC_6, kC_7, kC_8, kC_9, kC_10, kC_11, kC_20, kC_21, kC_22, kC_23, i2_0, i1_1, i0_1, i1_0, bI_and, bI_0, Decidable.not_not, not_false_eq_true, not_true_eq_false, forall_const, false_implies, true_implies, hK_copy, hN_copy, hI_copy, hC_sI, hC_sR, hC_new, hK_new, hN_new, hI_new, hR_new, rf_some, rf_none, ex_ref, ex_null, ex_rf, nref_null, rf_null, Nat.reduceEqDiff, reduceCtorEq, false_and, and_false, if_false, if_true, ne_eq, kO_150, kO_151, kO_152, kO_170, kO_180, kO_190, Value.ref.injEq, exists_eq_left', false_or]
        (repeat' (first | (with_reducible apply And.intro) | (with_reducible intro _)))
        all_goals first | exact hp | (rw [bI_t (by clear hp; grind)] at hp; exact hp) | (rw [bI_f (by clear hp; grind)] at hp; exact hp) | (simp_all; done)
      have k2 : ∀ (o : Option Value) (v : Int32), v = bI ((((¬ t1 = t2 ∧ ¬ t3 = t4 ∧ t1 * t2 ≤ 0 ∧ t3 * t4 ≤ 0 ∧ ¬ (t1 = 0 ∧ t2 = 0)) ∨ (t1 = 0 ∧ btw e a c ∧ btw f b d)) ∨ (t2 = 0 ∧ btw g a c ∧ btw i b d))) → wp_X9_cross_175 P X [some (.int a), some (.int b), some (.int c), some (.int d), some (.int e), some (.int f), some (.int g), some (.int i), some (.int t1), some (.int t2), some (.int t3), some (.int t4), o] [.int v] h := by
        rintro o _ rfl
        simp only [wp_X9_cross_175, wp_X9_cross_209, wp_X9_cross_213, T_X9_isBetween, i_mmax, i_mmin, i_pushI, i_pushN, i_pushL, i_iload, i_aload, i_istore, i_astore, i_iinc, i_iadd, i_isub, i_imul, i_iand, i_ior, i_ixor, i_ishl, i_ishr, i_iushr, i_idiv, i_i2l, i_lcmp, i_dup, i_pop, i_dupx1, i_dup2, i_ifeq, i_ifne, i_iflt, i_ifge, i_ifgt, i_ifle, i_iceq, i_icne, i_iclt, i_icge, i_icgt, i_icle, i_ifnull, i_aceq, i_getI, i_getR, i_putI, i_putZ, i_putR, i_new, i_newarr, i_ald, i_lald, i_aald, i_alen, i_ast, i_zast, i_last, i_aast, i_aastL, i_cast, i_gste, i_ldcM, i_getC, i_acopy, i_dead, i_objinit, i_callV, i_callS, i_callI, i_iret, i_zret, i_aret, i_vret, i_throw, popN, pushO, lget, lset, isRf_ref, isRf_null, isRf_rf, isC1_int, isC1_ref, isC1_null, isC1_rf, true_and, and_true, List.length_cons, List.length_nil, Nat.reduceAdd, Nat.reduceLeDiff, hK_sI, hN_sI, hR_sI, hI_sI, hK_sR, hN_sR, hR_sR, hI_sR, kC_2, kC_3, kC_4, kC_5, kC_6, kC_7, kC_8, kC_9, kC_10, kC_11, kC_20, kC_21, kC_22, kC_23, i2_0, i1_1, i0_1, i1_0, bI_and, bI_0, Decidable.not_not, not_false_eq_true, not_true_eq_false, forall_const, false_implies, true_implies, hK_copy, hN_copy, hI_copy, hC_sI, hC_sR, hC_new, hK_new, hN_new, hI_new, hR_new, rf_some, rf_none, ex_ref, ex_null, ex_rf, nref_null, rf_null, Nat.reduceEqDiff, reduceCtorEq, false_and, and_false, if_false, if_true, ne_eq, kO_150, kO_151, kO_152, kO_170, kO_180, kO_190, Value.ref.injEq, exists_eq_left', false_or]
        (repeat' (first | (with_reducible apply And.intro) | (with_reducible intro _)))
        all_goals first | exact k3 _ _ (bI_t (by clear hz hr hp k3; grind)).symm | exact k3 _ _ (bI_f (by clear hz hr hp k3; grind)).symm
      have k1 : ∀ (o : Option Value) (v : Int32), v = bI (((¬ t1 = t2 ∧ ¬ t3 = t4 ∧ t1 * t2 ≤ 0 ∧ t3 * t4 ≤ 0 ∧ ¬ (t1 = 0 ∧ t2 = 0)) ∨ (t1 = 0 ∧ btw e a c ∧ btw f b d))) → wp_X9_cross_138 P X [some (.int a), some (.int b), some (.int c), some (.int d), some (.int e), some (.int f), some (.int g), some (.int i), some (.int t1), some (.int t2), some (.int t3), some (.int t4), o] [.int v] h := by
        rintro o _ rfl
        simp only [wp_X9_cross_138, wp_X9_cross_170, wp_X9_cross_174, T_X9_isBetween, i_mmax, i_mmin, i_pushI, i_pushN, i_pushL, i_iload, i_aload, i_istore, i_astore, i_iinc, i_iadd, i_isub, i_imul, i_iand, i_ior, i_ixor, i_ishl, i_ishr, i_iushr, i_idiv, i_i2l, i_lcmp, i_dup, i_pop, i_dupx1, i_dup2, i_ifeq, i_ifne, i_iflt, i_ifge, i_ifgt, i_ifle, i_iceq, i_icne, i_iclt, i_icge, i_icgt, i_icle, i_ifnull, i_aceq, i_getI, i_getR, i_putI, i_putZ, i_putR, i_new, i_newarr, i_ald, i_lald, i_aald, i_alen, i_ast, i_zast, i_last, i_aast, i_aastL, i_cast, i_gste, i_ldcM, i_getC, i_acopy, i_dead, i_objinit, i_callV, i_callS, i_callI, i_iret, i_zret, i_aret, i_vret, i_throw, popN, pushO, lget, lset, isRf_ref, isRf_null, isRf_rf, isC1_int, isC1_ref, isC1_null, isC1_rf, true_and, and_true, List.length_cons, List.length_nil, Nat.reduceAdd, Nat.reduceLeDiff, hK_sI, hN_sI, hR_sI, hI_sI, hK_sR, hN_sR, hR_sR, hI_sR, kC_2, kC_3, kC_4, kC_5, kC_6, kC_7, kC_8, kC_9, kC_10, kC_11, kC_20, kC_21, kC_22, kC_23, i2_0, i1_1, i0_1, i1_0, bI_and, bI_0, Decidable.not_not, not_false_eq_true, not_true_eq_false, forall_const, false_implies, true_implies, hK_copy, hN_copy, hI_copy, hC_sI, hC_sR, hC_new, hK_new, hN_new, hI_new, hR_new, rf_some, rf_none, ex_ref, ex_null, ex_rf, nref_null, rf_null, Nat.reduceEqDiff, reduceCtorEq, false_and, and_false, if_false, if_true, ne_eq, kO_150, kO_151, kO_152, kO_170, kO_180, kO_190, Value.ref.injEq, exists_eq_left', false_or]
        (repeat' (first | (with_reducible apply And.intro) | (with_reducible intro _)))
        all_goals first | exact k2 _ _ (bI_t (by clear hz hr hp k3 k2; grind)).symm | exact k2 _ _ (bI_f (by clear hz hr hp k3 k2; grind)).symm
      have k0 : ∀ (o : Option Value) (v : Int32), v = bI ((¬ t1 = t2 ∧ ¬ t3 = t4 ∧ t1 * t2 ≤ 0 ∧ t3 * t4 ≤ 0 ∧ ¬ (t1 = 0 ∧ t2 = 0))) → wp_X9_cross_101 P X [some (.int a), some (.int b), some (.int c), some (.int d), some (.int e), some (.int f), some (.int g), some (.int i), some (.int t1), some (.int t2), some (.int t3), some (.int t4), o] [.int v] h := by
        rintro o _ rfl
        simp only [wp_X9_cross_101, wp_X9_cross_133, wp_X9_cross_137, T_X9_isBetween, i_mmax, i_mmin, i_pushI, i_pushN, i_pushL, i_iload, i_aload, i_istore, i_astore, i_iinc, i_iadd, i_isub, i_imul, i_iand, i_ior, i_ixor, i_ishl, i_ishr, i_iushr, i_idiv, i_i2l, i_lcmp, i_dup, i_pop, i_dupx1, i_dup2, i_ifeq, i_ifne, i_iflt, i_ifge, i_ifgt, i_ifle, i_iceq, i_icne, i_iclt, i_icge, i_icgt, i_icle, i_ifnull, i_aceq, i_getI, i_getR, i_putI, i_putZ, i_putR, i_new, i_newarr, i_ald, i_lald, i_aald, i_alen, i_ast, i_zast, i_last, i_aast, i_aastL, i_cast, i_gste, i_ldcM, i_getC, i_acopy, i_dead, i_objinit, i_callV, i_callS, i_callI, i_iret, i_zret, i_aret, i_vret, i_throw, popN, pushO, lget, lset, isRf_ref, isRf_null, isRf_rf, isC1_int, isC1_ref, isC1_null, isC1_rf, true_and, and_true, List.length_cons, List.length_nil, Nat.reduceAdd, Nat.reduceLeDiff, hK_sI, hN_sI, hR_sI, hI_sI, hK_sR, hN_sR, hR_sR, hI_sR, kC_2, kC_3, kC_4, kC_5, kC_6, kC_7, kC_8, kC_9, kC_10, kC_11, kC_20, kC_21, kC_22, kC_23, i2_0, i1_1, i0_1, i1_0, bI_and, bI_0, Decidable.not_not, not_false_eq_true, not_true_eq_false, forall_const, false_implies, true_implies, hK_copy, hN_copy, hI_copy, hC_sI, hC_sR, hC_new, hK_new, hN_new, hI_new, hR_new, rf_some, rf_none, ex_ref, ex_null, ex_rf, nref_null, rf_null, Nat.reduceEqDiff, reduceCtorEq, false_and, and_false, if_false, if_true, ne_eq, kO_150, kO_151, kO_152, kO_170, kO_180, kO_190, Value.ref.injEq, exists_eq_left', false_or]
        (repeat' (first | (with_reducible apply And.intro) | (with_reducible intro _)))
        all_goals first | exact k1 _ _ (bI_t (by clear hz hr hp k3 k2 k1; grind)).symm | exact k1 _ _ (bI_f (by clear hz hr hp k3 k2 k1; grind)).symm
      (repeat' (first | (with_reducible apply And.intro) | (with_reducible intro _)))
      all_goals first | exact k0 _ _ (bI_t (by clear hz hr hp k3 k2 k1 k0; grind)).symm | exact k0 _ _ (bI_f (by clear hz hr hp k3 k2 k1 k0; grind)).symm
    · exact hT.elim
  · unfold T_X9_cross at hT
    split at hT
    · exact ⟨Nat.le_of_ble_eq_true rfl, by simp [isC1_int, isC1_ref, isC1_null, isC1_rf]⟩
    · exact hT.elim
def wp_X9_runAlong_45 (P : Option Value → hp_T → Prop) (X : String → hp_T → Prop) : KT :=
  i_zret P
set_option maxRecDepth 20000 in
theorem go_X9_runAlong_45 {z : zT} {P : Option Value → hp_T → Prop} {X : String → hp_T → Prop} (hz : Cx z cX9_runAlong 7 "PanelryModel" "runAlong" 1 0 0) (hr : Rt z (some .boolean) P X 0 0) : Go z 0 0 45 (wp_X9_runAlong_45 P X) := 
  s_zret hz hr rfl rfl dX9_runAlong_45
def wp_X9_runAlong_44 (P : Option Value → hp_T → Prop) (X : String → hp_T → Prop) : KT :=
  i_pushI 0 (wp_X9_runAlong_45 P X)
set_option maxRecDepth 20000 in
theorem go_X9_runAlong_44 {z : zT} {P : Option Value → hp_T → Prop} {X : String → hp_T → Prop} (hz : Cx z cX9_runAlong 7 "PanelryModel" "runAlong" 1 0 0) (hr : Rt z (some .boolean) P X 0 0) : Go z 0 0 44 (wp_X9_runAlong_44 P X) := 
  s_iconst hz rfl dX9_runAlong_44 (go_X9_runAlong_45 hz hr)
def wp_X9_runAlong_0 (P : Option Value → hp_T → Prop) (X : String → hp_T → Prop) : KT :=
  i_iload 0 (i_iload 4 (i_isub (i_iload 2 (i_iload 4 (i_isub (i_imul (i_iload 1 (i_iload 5 (i_isub (i_iload 3 (i_iload 5 (i_isub (i_imul (i_iadd (i_istore 6 (i_iload 4 (i_iload 5 (i_iload 0
    (i_iload 1 (i_iload 2 (i_iload 3 (i_callS 6 T_X9_turnOf noX (i_ifne (wp_X9_runAlong_44 P X) (i_iload 6 (i_ifle (wp_X9_runAlong_44 P X) (i_pushI 1 (wp_X9_runAlong_45 P X)))))))))))))))))))))))))))
set_option maxRecDepth 20000 in
theorem go_X9_runAlong_0 {z : zT} {P : Option Value → hp_T → Prop} {X : String → hp_T → Prop} (hz : Cx z cX9_runAlong 7 "PanelryModel" "runAlong" 1 0 0) (hr : Rt z (some .boolean) P X 0 0) : Go z 0 0 0 (wp_X9_runAlong_0 P X) := 
  s_iload_n hz rfl dX9_runAlong_0 (s_iload hz dX9_runAlong_1 (s_isub hz dX9_runAlong_3 (s_iload_n hz rfl dX9_runAlong_4 (s_iload hz dX9_runAlong_5 (s_isub hz dX9_runAlong_7 (s_imul hz dX9_runAlong_8
    (s_iload_n hz rfl dX9_runAlong_9 (s_iload hz dX9_runAlong_10 (s_isub hz dX9_runAlong_12 (s_iload_n hz rfl dX9_runAlong_13 (s_iload hz dX9_runAlong_14 (s_isub hz dX9_runAlong_16 (s_imul hz dX9_runAlong_17
    (s_iadd hz dX9_runAlong_18 (s_istore hz rfl dX9_runAlong_19 (s_iload hz dX9_runAlong_21 (s_iload hz dX9_runAlong_23 (s_iload_n hz rfl dX9_runAlong_25 (s_iload_n hz rfl dX9_runAlong_26
    (s_iload_n hz rfl dX9_runAlong_27 (s_iload_n hz rfl dX9_runAlong_28 (s_callS hz ct_X9_turnOf ⟨w1174, w1176, w33, by decide, by decide, by decide +kernel⟩ w1175 rfl rfl rfl rfl out_no dX9_runAlong_29
    (s_ifne hz (tgt := 44) rfl dX9_runAlong_32 (go_X9_runAlong_44 hz hr) (s_iload hz dX9_runAlong_35 (s_ifle hz (tgt := 44) rfl dX9_runAlong_37 (go_X9_runAlong_44 hz hr) (s_iconst hz rfl dX9_runAlong_40
    (s_goto hz (tgt := 45) rfl dX9_runAlong_41 (go_X9_runAlong_45 hz hr))))))))))))))))))))))))))))

def T_X9_runAlong : PT := fun av h P X => match av with
  | [.int a, .int b, .int c, .int d, .int e, .int f] => (True) ∧ (P (some (.int (bI (alg a b c d e f)))) h)
  | _ => False
theorem tx_X9_runAlong (a : Int32) (b : Int32) (c : Int32) (d : Int32) (e : Int32) (f : Int32) (h : hp_T) (P : Option Value → hp_T → Prop) (X : String → hp_T → Prop) : T_X9_runAlong [.int a, .int b, .int c, .int d, .int e, .int f] h P X = ((True) ∧ (P (some (.int (bI (alg a b c d e f)))) h)) := rfl
set_option maxRecDepth 20000 in
theorem ct_X9_runAlong : CT yX9_runAlong cX9_runAlong 7 (some .boolean) 1 0 0 T_X9_runAlong := by
  refine ct_ofE (by decide) (fun z av h P X hT hz hr => ?_) (fun av h P X hT => ?_)
  · unfold T_X9_runAlong at hT
    split at hT
    · refine ⟨_, go_X9_runAlong_0 hz hr, ?_⟩
      rename_i a b c d e f
      show wp_X9_runAlong_0 P X [some (.int a), some (.int b), some (.int c), some (.int d), some (.int e), some (.int f), none] [] h
      obtain ⟨hk, hp⟩ := hT
      unfold alg at hp
      simp only [wp_X9_runAlong_45, wp_X9_runAlong_44, wp_X9_runAlong_0, T_X9_turnOf, i_mmax, i_mmin, i_pushI, i_pushN, i_pushL, i_iload, i_aload, i_istore, i_astore, i_iinc, i_iadd, i_isub, i_imul, i_iand, i_ior, i_ixor, i_ishl, i_ishr, i_iushr, i_idiv, i_i2l, i_lcmp, i_dup, i_pop, i_dupx1, i_dup2, i_ifeq, i_ifne, i_iflt, i_ifge, i_ifgt, i_ifle, i_iceq, i_icne, i_iclt, i_icge, i_icgt, i_icle, i_ifnull, i_aceq, i_getI, i_getR, i_putI, i_putZ, i_putR, i_new, i_newarr, i_ald, i_lald, i_aald, i_alen, i_ast, i_zast, i_last, i_aast, i_aastL, i_cast, i_gste, i_ldcM, i_getC, i_acopy, i_dead, i_objinit, i_callV, i_callS, i_callI, i_iret, i_zret, i_aret, i_vret, i_throw, popN, pushO, lget, lset, isRf_ref, isRf_null, isRf_rf, isC1_int, isC1_ref, isC1_null, isC1_rf, true_and, and_true, List.length_cons, List.length_nil, Nat.reduceAdd, Nat.reduceLeDiff, hK_sI, hN_sI, hR_sI, hI_sI, hK_sR, hN_sR, hR_sR, hI_sR, kC_2, kC_3, kC_4, kC_5, kC_6, kC_7, kC_8, kC_9, kC_10, kC_11, kC_20, kC_21, kC_22, kC_23, i2_0, i1_1, i0_1, i1_0, bI_and, bI_0, Decidable.not_not, not_false_eq_true, not_true_eq_false, forall_const, false_implies, true_implies, hK_copy, hN_copy, hI_copy, hC_sI, hC_sR, hC_new, hK_new, hN_new, hI_new, hR_new, rf_some, rf_none, ex_ref, ex_null, ex_rf, nref_null, rf_null, Nat.reduceEqDiff, reduceCtorEq, false_and, and_false, if_false, if_true, ne_eq, kO_150, kO_151, kO_152, kO_170, kO_180, kO_190, Value.ref.injEq, exists_eq_left', false_or, hk]
      (repeat' (first | (with_reducible apply And.intro) | (with_reducible intro _)))
      all_goals first | exact hp | (rw [bI_t (by clear hp; grind)] at hp; exact hp) | (rw [bI_f (by clear hp; grind)] at hp; exact hp) | (simp_all; done)
    · exact hT.elim
  · unfold T_X9_runAlong at hT
    split at hT
    · exact ⟨Nat.le_of_ble_eq_true rfl, by simp [isC1_int, isC1_ref, isC1_null, isC1_rf]⟩
    · exact hT.elim
def wp_X9_hitsBox_202 (P : Option Value → hp_T → Prop) (X : String → hp_T → Prop) : KT :=
  i_zret P
set_option maxRecDepth 20000 in
theorem go_X9_hitsBox_202 {z : zT} {P : Option Value → hp_T → Prop} {X : String → hp_T → Prop} (hz : Cx z cX9_hitsBox 11 "PanelryModel" "hitsBox" 2 0 0) (hr : Rt z (some .boolean) P X 0 0) : Go z 0 0 202 (wp_X9_hitsBox_202 P X) := 
  s_zret hz hr rfl rfl dX9_hitsBox_202
def wp_X9_hitsBox_197 (P : Option Value → hp_T → Prop) (X : String → hp_T → Prop) : KT :=
  i_pushI 1 (wp_X9_hitsBox_202 P X)
set_option maxRecDepth 20000 in
theorem go_X9_hitsBox_197 {z : zT} {P : Option Value → hp_T → Prop} {X : String → hp_T → Prop} (hz : Cx z cX9_hitsBox 11 "PanelryModel" "hitsBox" 2 0 0) (hr : Rt z (some .boolean) P X 0 0) : Go z 0 0 197 (wp_X9_hitsBox_197 P X) := 
  s_iconst hz rfl dX9_hitsBox_197 (s_goto hz (tgt := 202) rfl dX9_hitsBox_198 (go_X9_hitsBox_202 hz hr))
def wp_X9_hitsBox_152 (P : Option Value → hp_T → Prop) (X : String → hp_T → Prop) : KT :=
  i_istore 10 (i_iload 10 (i_ifne (wp_X9_hitsBox_197 P X) (i_iload 1 (i_iload 2 (i_iload 3 (i_iload 4 (i_iload 6 (i_iload 8 (i_iload 6 (i_iload 9 (i_callS 8 T_X9_cross noX (i_ifne (wp_X9_hitsBox_197 P X)
    (i_iload 1 (i_iload 2 (i_iload 3 (i_iload 4 (i_iload 7 (i_iload 8 (i_iload 7 (i_iload 9 (i_callS 8 T_X9_cross noX (i_ifeq (i_pushI 0 (wp_X9_hitsBox_202 P X)) (wp_X9_hitsBox_197 P X)))))))))))))))))))))))
set_option maxRecDepth 20000 in
theorem go_X9_hitsBox_152 {z : zT} {P : Option Value → hp_T → Prop} {X : String → hp_T → Prop} (hz : Cx z cX9_hitsBox 11 "PanelryModel" "hitsBox" 2 0 0) (hr : Rt z (some .boolean) P X 0 0) : Go z 0 0 152 (wp_X9_hitsBox_152 P X) := 
  s_istore hz rfl dX9_hitsBox_152 (s_iload hz dX9_hitsBox_154 (s_ifne hz (tgt := 197) rfl dX9_hitsBox_156 (go_X9_hitsBox_197 hz hr) (s_iload_n hz rfl dX9_hitsBox_159 (s_iload_n hz rfl dX9_hitsBox_160
    (s_iload_n hz rfl dX9_hitsBox_161 (s_iload hz dX9_hitsBox_162 (s_iload hz dX9_hitsBox_164 (s_iload hz dX9_hitsBox_166 (s_iload hz dX9_hitsBox_168 (s_iload hz dX9_hitsBox_170 (s_callS hz ct_X9_cross ⟨w1171, w1173, w33, by decide, by decide, by decide +kernel⟩ w1172 rfl rfl rfl rfl out_no dX9_hitsBox_172
    (s_ifne hz (tgt := 197) rfl dX9_hitsBox_175 (go_X9_hitsBox_197 hz hr) (s_iload_n hz rfl dX9_hitsBox_178 (s_iload_n hz rfl dX9_hitsBox_179 (s_iload_n hz rfl dX9_hitsBox_180 (s_iload hz dX9_hitsBox_181
    (s_iload hz dX9_hitsBox_183 (s_iload hz dX9_hitsBox_185 (s_iload hz dX9_hitsBox_187 (s_iload hz dX9_hitsBox_189 (s_callS hz ct_X9_cross ⟨w1171, w1173, w33, by decide, by decide, by decide +kernel⟩ w1172 rfl rfl rfl rfl out_no dX9_hitsBox_191
    (s_ifeq hz (tgt := 201) rfl dX9_hitsBox_194 (s_iconst hz rfl dX9_hitsBox_201 (go_X9_hitsBox_202 hz hr)) (go_X9_hitsBox_197 hz hr)))))))))))))))))))))))
def wp_X9_hitsBox_147 (P : Option Value → hp_T → Prop) (X : String → hp_T → Prop) : KT :=
  i_pushI 1 (wp_X9_hitsBox_152 P X)
set_option maxRecDepth 20000 in
theorem go_X9_hitsBox_147 {z : zT} {P : Option Value → hp_T → Prop} {X : String → hp_T → Prop} (hz : Cx z cX9_hitsBox 11 "PanelryModel" "hitsBox" 2 0 0) (hr : Rt z (some .boolean) P X 0 0) : Go z 0 0 147 (wp_X9_hitsBox_147 P X) := 
  s_iconst hz rfl dX9_hitsBox_147 (s_goto hz (tgt := 152) rfl dX9_hitsBox_148 (go_X9_hitsBox_152 hz hr))
def wp_X9_hitsBox_102 (P : Option Value → hp_T → Prop) (X : String → hp_T → Prop) : KT :=
  i_istore 10 (i_iload 10 (i_ifne (wp_X9_hitsBox_147 P X) (i_iload 1 (i_iload 2 (i_iload 3 (i_iload 4 (i_iload 6 (i_iload 8 (i_iload 7 (i_iload 8 (i_callS 8 T_X9_cross noX (i_ifne (wp_X9_hitsBox_147 P X)
    (i_iload 1 (i_iload 2 (i_iload 3 (i_iload 4 (i_iload 6 (i_iload 9 (i_iload 7 (i_iload 9 (i_callS 8 T_X9_cross noX (i_ifeq (i_pushI 0 (wp_X9_hitsBox_152 P X)) (wp_X9_hitsBox_147 P X)))))))))))))))))))))))
set_option maxRecDepth 20000 in
theorem go_X9_hitsBox_102 {z : zT} {P : Option Value → hp_T → Prop} {X : String → hp_T → Prop} (hz : Cx z cX9_hitsBox 11 "PanelryModel" "hitsBox" 2 0 0) (hr : Rt z (some .boolean) P X 0 0) : Go z 0 0 102 (wp_X9_hitsBox_102 P X) := 
  s_istore hz rfl dX9_hitsBox_102 (s_iload hz dX9_hitsBox_104 (s_ifne hz (tgt := 147) rfl dX9_hitsBox_106 (go_X9_hitsBox_147 hz hr) (s_iload_n hz rfl dX9_hitsBox_109 (s_iload_n hz rfl dX9_hitsBox_110
    (s_iload_n hz rfl dX9_hitsBox_111 (s_iload hz dX9_hitsBox_112 (s_iload hz dX9_hitsBox_114 (s_iload hz dX9_hitsBox_116 (s_iload hz dX9_hitsBox_118 (s_iload hz dX9_hitsBox_120 (s_callS hz ct_X9_cross ⟨w1171, w1173, w33, by decide, by decide, by decide +kernel⟩ w1172 rfl rfl rfl rfl out_no dX9_hitsBox_122
    (s_ifne hz (tgt := 147) rfl dX9_hitsBox_125 (go_X9_hitsBox_147 hz hr) (s_iload_n hz rfl dX9_hitsBox_128 (s_iload_n hz rfl dX9_hitsBox_129 (s_iload_n hz rfl dX9_hitsBox_130 (s_iload hz dX9_hitsBox_131
    (s_iload hz dX9_hitsBox_133 (s_iload hz dX9_hitsBox_135 (s_iload hz dX9_hitsBox_137 (s_iload hz dX9_hitsBox_139 (s_callS hz ct_X9_cross ⟨w1171, w1173, w33, by decide, by decide, by decide +kernel⟩ w1172 rfl rfl rfl rfl out_no dX9_hitsBox_141
    (s_ifeq hz (tgt := 151) rfl dX9_hitsBox_144 (s_iconst hz rfl dX9_hitsBox_151 (go_X9_hitsBox_152 hz hr)) (go_X9_hitsBox_147 hz hr)))))))))))))))))))))))
def wp_X9_hitsBox_97 (P : Option Value → hp_T → Prop) (X : String → hp_T → Prop) : KT :=
  i_pushI 1 (wp_X9_hitsBox_102 P X)
set_option maxRecDepth 20000 in
theorem go_X9_hitsBox_97 {z : zT} {P : Option Value → hp_T → Prop} {X : String → hp_T → Prop} (hz : Cx z cX9_hitsBox 11 "PanelryModel" "hitsBox" 2 0 0) (hr : Rt z (some .boolean) P X 0 0) : Go z 0 0 97 (wp_X9_hitsBox_97 P X) := 
  s_iconst hz rfl dX9_hitsBox_97 (s_goto hz (tgt := 102) rfl dX9_hitsBox_98 (go_X9_hitsBox_102 hz hr))
def wp_X9_hitsBox_101 (P : Option Value → hp_T → Prop) (X : String → hp_T → Prop) : KT :=
  i_pushI 0 (wp_X9_hitsBox_102 P X)
set_option maxRecDepth 20000 in
theorem go_X9_hitsBox_101 {z : zT} {P : Option Value → hp_T → Prop} {X : String → hp_T → Prop} (hz : Cx z cX9_hitsBox 11 "PanelryModel" "hitsBox" 2 0 0) (hr : Rt z (some .boolean) P X 0 0) : Go z 0 0 101 (wp_X9_hitsBox_101 P X) := 
  s_iconst hz rfl dX9_hitsBox_101 (go_X9_hitsBox_102 hz hr)
def wp_X9_hitsBox_74 (P : Option Value → hp_T → Prop) (X : String → hp_T → Prop) : KT :=
  i_iload 3 (i_iload 6 (i_iload 7 (i_callS 3 T_X9_isBetween noX (i_ifeq (wp_X9_hitsBox_101 P X) (i_iload 4 (i_iload 8 (i_iload 9 (i_callS 3 T_X9_isBetween noX (i_ifeq (wp_X9_hitsBox_101 P X)
    (wp_X9_hitsBox_97 P X))))))))))
set_option maxRecDepth 20000 in
theorem go_X9_hitsBox_74 {z : zT} {P : Option Value → hp_T → Prop} {X : String → hp_T → Prop} (hz : Cx z cX9_hitsBox 11 "PanelryModel" "hitsBox" 2 0 0) (hr : Rt z (some .boolean) P X 0 0) : Go z 0 0 74 (wp_X9_hitsBox_74 P X) := 
  s_iload_n hz rfl dX9_hitsBox_74 (s_iload hz dX9_hitsBox_75 (s_iload hz dX9_hitsBox_77 (s_callS hz ct_X9_isBetween ⟨w1168, w1170, w33, by decide, by decide, by decide +kernel⟩ w1169 rfl rfl rfl rfl out_no dX9_hitsBox_79
    (s_ifeq hz (tgt := 101) rfl dX9_hitsBox_82 (go_X9_hitsBox_101 hz hr) (s_iload hz dX9_hitsBox_85 (s_iload hz dX9_hitsBox_87 (s_iload hz dX9_hitsBox_89 (s_callS hz ct_X9_isBetween ⟨w1168, w1170, w33, by decide, by decide, by decide +kernel⟩ w1169 rfl rfl rfl rfl out_no dX9_hitsBox_91
    (s_ifeq hz (tgt := 101) rfl dX9_hitsBox_94 (go_X9_hitsBox_101 hz hr) (go_X9_hitsBox_97 hz hr))))))))))
def wp_X9_hitsBox_0 (P : Option Value → hp_T → Prop) (X : String → hp_T → Prop) : KT :=
  i_aload 0 (i_getR 11 724 (i_iload 5 (i_ald 120 (i_istore 6 (i_aload 0 (i_getR 11 724 (i_iload 5 (i_ald 120 (i_aload 0 (i_getR 11 726 (i_iload 5 (i_ald 122 (i_iadd (i_istore 7 (i_aload 0
    (i_getR 11 725 (i_iload 5 (i_ald 121 (i_istore 8 (i_aload 0 (i_getR 11 725 (i_iload 5 (i_ald 121 (i_aload 0 (i_getR 11 727 (i_iload 5 (i_ald 123 (i_iadd (i_istore 9 (i_iload 1 (i_iload 6
    (i_iload 7 (i_callS 3 T_X9_isBetween noX (i_ifeq (wp_X9_hitsBox_74 P X) (i_iload 2 (i_iload 8 (i_iload 9 (i_callS 3 T_X9_isBetween noX (i_ifne (wp_X9_hitsBox_97 P X) (wp_X9_hitsBox_74 P X))))))))))))))))))))))))))))))))))))))))
set_option maxRecDepth 20000 in
theorem go_X9_hitsBox_0 {z : zT} {P : Option Value → hp_T → Prop} {X : String → hp_T → Prop} (hz : Cx z cX9_hitsBox 11 "PanelryModel" "hitsBox" 2 0 0) (hr : Rt z (some .boolean) P X 0 0) : Go z 0 0 0 (wp_X9_hitsBox_0 P X) := 
  s_aload_n hz rfl dX9_hitsBox_0 (fg_RX9_65 hz dX9_hitsBox_1 (s_iload hz dX9_hitsBox_4 (s_iald hz rfl rfl rfl dX9_hitsBox_6 (s_istore hz rfl dX9_hitsBox_7 (s_aload_n hz rfl dX9_hitsBox_9
    (fg_RX9_65 hz dX9_hitsBox_10 (s_iload hz dX9_hitsBox_13 (s_iald hz rfl rfl rfl dX9_hitsBox_15 (s_aload_n hz rfl dX9_hitsBox_16 (fg_RX9_71 hz dX9_hitsBox_17 (s_iload hz dX9_hitsBox_20
    (s_iald hz rfl rfl rfl dX9_hitsBox_22 (s_iadd hz dX9_hitsBox_23 (s_istore hz rfl dX9_hitsBox_24 (s_aload_n hz rfl dX9_hitsBox_26 (fg_RX9_68 hz dX9_hitsBox_27 (s_iload hz dX9_hitsBox_30
    (s_iald hz rfl rfl rfl dX9_hitsBox_32 (s_istore hz rfl dX9_hitsBox_33 (s_aload_n hz rfl dX9_hitsBox_35 (fg_RX9_68 hz dX9_hitsBox_36 (s_iload hz dX9_hitsBox_39 (s_iald hz rfl rfl rfl dX9_hitsBox_41
    (s_aload_n hz rfl dX9_hitsBox_42 (fg_RX9_74 hz dX9_hitsBox_43 (s_iload hz dX9_hitsBox_46 (s_iald hz rfl rfl rfl dX9_hitsBox_48 (s_iadd hz dX9_hitsBox_49 (s_istore hz rfl dX9_hitsBox_50
    (s_iload_n hz rfl dX9_hitsBox_52 (s_iload hz dX9_hitsBox_53 (s_iload hz dX9_hitsBox_55 (s_callS hz ct_X9_isBetween ⟨w1168, w1170, w33, by decide, by decide, by decide +kernel⟩ w1169 rfl rfl rfl rfl out_no dX9_hitsBox_57
    (s_ifeq hz (tgt := 74) rfl dX9_hitsBox_60 (go_X9_hitsBox_74 hz hr) (s_iload_n hz rfl dX9_hitsBox_63 (s_iload hz dX9_hitsBox_64 (s_iload hz dX9_hitsBox_66 (s_callS hz ct_X9_isBetween ⟨w1168, w1170, w33, by decide, by decide, by decide +kernel⟩ w1169 rfl rfl rfl rfl out_no dX9_hitsBox_68
    (s_ifne hz (tgt := 97) rfl dX9_hitsBox_71 (go_X9_hitsBox_97 hz hr) (go_X9_hitsBox_74 hz hr))))))))))))))))))))))))))))))))))))))))

def T_X9_hitsBox : PT := fun av h P X => match av with
  | [.ref m, .int a, .int b, .int c, .int d, .int v] => (mOK h m ∧ vp_in v 160) ∧ (P (some (.int (bI (hitM a b c d (sM h m 20 v.toNatClampNeg) (sM h m 21 v.toNatClampNeg) (sM h m 22 v.toNatClampNeg) (sM h m 23 v.toNatClampNeg))))) h)
  | _ => False
theorem tx_X9_hitsBox (m : Nat) (a : Int32) (b : Int32) (c : Int32) (d : Int32) (v : Int32) (h : hp_T) (P : Option Value → hp_T → Prop) (X : String → hp_T → Prop) : T_X9_hitsBox [.ref m, .int a, .int b, .int c, .int d, .int v] h P X = ((mOK h m ∧ vp_in v 160) ∧ (P (some (.int (bI (hitM a b c d (sM h m 20 v.toNatClampNeg) (sM h m 21 v.toNatClampNeg) (sM h m 22 v.toNatClampNeg) (sM h m 23 v.toNatClampNeg))))) h)) := rfl
set_option maxRecDepth 20000 in
theorem ct_X9_hitsBox : CT yX9_hitsBox cX9_hitsBox 11 (some .boolean) 2 0 0 T_X9_hitsBox := by
  refine ct_ofE (by decide) (fun z av h P X hT hz hr => ?_) (fun av h P X hT => ?_)
  · unfold T_X9_hitsBox at hT
    split at hT
    · refine ⟨_, go_X9_hitsBox_0 hz hr, ?_⟩
      rename_i m a b c d v
      show wp_X9_hitsBox_0 P X [some (.ref m), some (.int a), some (.int b), some (.int c), some (.int d), some (.int v), none, none, none, none, none] [] h
      obtain ⟨hk, hp⟩ := hT
      obtain ⟨hm, hv⟩ := hk
      obtain ⟨j, hj, rfl⟩ := vp_in_of hv (by omega)
      unfold hitM at hp
      simp (disch := omega) only [wp_X9_hitsBox_0, wp_X9_hitsBox_74, wp_X9_hitsBox_97, wp_X9_hitsBox_101, T_X9_isBetween, i_mmax, i_mmin, i_pushI, i_pushN, i_pushL, i_iload, i_aload, i_istore, i_astore, i_iinc, i_iadd, i_isub, i_imul, i_iand, i_ior, i_ixor, i_ishl, i_ishr, i_iushr, i_idiv, i_i2l, i_lcmp, i_dup, i_pop, i_dupx1, i_dup2, i_ifeq, i_ifne, i_iflt, i_ifge, i_ifgt, i_ifle, i_iceq, i_icne, i_iclt, i_icge, i_icgt, i_icle, i_ifnull, i_aceq, i_getI, i_getR, i_putI, i_putZ, i_putR, i_new, i_newarr, i_ald, i_lald, i_aald, i_alen, i_ast, i_zast, i_last, i_aast, i_aastL, i_cast, i_gste, i_ldcM, i_getC, i_acopy, i_dead, i_objinit, i_callV, i_callS, i_callI, i_iret, i_zret, i_aret, i_vret, i_throw, popN, pushO, lget, lset, isRf_ref, isRf_null, isRf_rf, isC1_int, isC1_ref, isC1_null, isC1_rf, true_and, and_true, List.length_cons, List.length_nil, Nat.reduceAdd, Nat.reduceLeDiff, hK_sI, hN_sI, hR_sI, hI_sI, hK_sR, hN_sR, hR_sR, hI_sR, kC_2, kC_3, kC_4, kC_5, kC_6, kC_7, kC_8, kC_9, kC_10, kC_11, kC_20, kC_21, kC_22, kC_23, i2_0, i1_1, i0_1, i1_0, bI_and, bI_0, Decidable.not_not, not_false_eq_true, not_true_eq_false, forall_const, false_implies, true_implies, hK_copy, hN_copy, hI_copy, hC_sI, hC_sR, hC_new, hK_new, hN_new, hI_new, hR_new, rf_some, rf_none, ex_ref, ex_null, ex_rf, nref_null, rf_null, Nat.reduceEqDiff, reduceCtorEq, false_and, and_false, if_false, if_true, ne_eq, kO_150, kO_151, kO_152, kO_170, kO_180, kO_190, Value.ref.injEq, exists_eq_left', false_or, mo_20 hm, mo_21 hm, mo_22 hm, mo_23 hm, mo_h hm, rs_20, rs_21, rs_22, rs_23, pk_in', cl_nI]
      rw [cl_nI (by omega)] at hp
      generalize sM h m 20 j = x at hp ⊢
      generalize sM h m 21 j = y at hp ⊢
      generalize x + sM h m 22 j = r at hp ⊢
      generalize y + sM h m 23 j = u at hp ⊢
      have k1 : ∀ (o : Option Value) (v : Int32), v = bI (((((btw a x r ∧ btw b y u) ∨ (btw c x r ∧ btw d y u)) ∨ crs a b c d x y r y) ∨ crs a b c d x u r u)) → wp_X9_hitsBox_152 P X [some (.ref m), some (.int a), some (.int b), some (.int c), some (.int d), some (.int (nI j)), some (.int x), some (.int r), some (.int y), some (.int u), o] [.int v] h := by
        rintro o _ rfl
        simp only [wp_X9_hitsBox_152, wp_X9_hitsBox_197, wp_X9_hitsBox_202, T_X9_cross, i_mmax, i_mmin, i_pushI, i_pushN, i_pushL, i_iload, i_aload, i_istore, i_astore, i_iinc, i_iadd, i_isub, i_imul, i_iand, i_ior, i_ixor, i_ishl, i_ishr, i_iushr, i_idiv, i_i2l, i_lcmp, i_dup, i_pop, i_dupx1, i_dup2, i_ifeq, i_ifne, i_iflt, i_ifge, i_ifgt, i_ifle, i_iceq, i_icne, i_iclt, i_icge, i_icgt, i_icle, i_ifnull, i_aceq, i_getI, i_getR, i_putI, i_putZ, i_putR, i_new, i_newarr, i_ald, i_lald, i_aald, i_alen, i_ast, i_zast, i_last, i_aast, i_aastL, i_cast, i_gste, i_ldcM, i_getC, i_acopy, i_dead, i_objinit, i_callV, i_callS, i_callI, i_iret, i_zret, i_aret, i_vret, i_throw, popN, pushO, lget, lset, isRf_ref, isRf_null, isRf_rf, isC1_int, isC1_ref, isC1_null, isC1_rf, true_and, and_true, List.length_cons, List.length_nil, Nat.reduceAdd, Nat.reduceLeDiff, hK_sI, hN_sI, hR_sI, hI_sI, hK_sR, hN_sR, hR_sR, hI_sR, kC_2, kC_3, kC_4, kC_5, kC_6, kC_7, kC_8, kC_9, kC_10, kC_11, kC_20, kC_21, kC_22, kC_23, i2_0, i1_1, i0_1, i1_0, bI_and, bI_0, Decidable.not_not, not_false_eq_true, not_true_eq_false, forall_const, false_implies, true_implies, hK_copy, hN_copy, hI_copy, hC_sI, hC_sR, hC_new, hK_new, hN_new, hI_new, hR_new, rf_some, rf_none, ex_ref, ex_null, ex_rf, nref_null, rf_null, Nat.reduceEqDiff, reduceCtorEq, false_and, and_false, if_false, if_true, ne_eq, kO_150, kO_151, kO_152, kO_170, kO_180, kO_190, Value.ref.injEq, exists_eq_left', false_or]
        (repeat' (first | (with_reducible apply And.intro) | (with_reducible intro _)))
        all_goals first | exact hp | (rw [bI_t (by clear hp; grind)] at hp; exact hp) | (rw [bI_f (by clear hp; grind)] at hp; exact hp) | (simp_all; done)
      have k0 : ∀ (o : Option Value) (v : Int32), v = bI (((btw a x r ∧ btw b y u) ∨ (btw c x r ∧ btw d y u))) → wp_X9_hitsBox_102 P X [some (.ref m), some (.int a), some (.int b), some (.int c), some (.int d), some (.int (nI j)), some (.int x), some (.int r), some (.int y), some (.int u), o] [.int v] h := by
        rintro o _ rfl
        simp only [wp_X9_hitsBox_102, wp_X9_hitsBox_147, T_X9_cross, i_mmax, i_mmin, i_pushI, i_pushN, i_pushL, i_iload, i_aload, i_istore, i_astore, i_iinc, i_iadd, i_isub, i_imul, i_iand, i_ior, i_ixor, i_ishl, i_ishr, i_iushr, i_idiv, i_i2l, i_lcmp, i_dup, i_pop, i_dupx1, i_dup2, i_ifeq, i_ifne, i_iflt, i_ifge, i_ifgt, i_ifle, i_iceq, i_icne, i_iclt, i_icge, i_icgt, i_icle, i_ifnull, i_aceq, i_getI, i_getR, i_putI, i_putZ, i_putR, i_new, i_newarr, i_ald, i_lald, i_aald, i_alen, i_ast, i_zast, i_last, i_aast, i_aastL, i_cast, i_gste, i_ldcM, i_getC, i_acopy, i_dead, i_objinit, i_callV, i_callS, i_callI, i_iret, i_zret, i_aret, i_vret, i_throw, popN, pushO, lget, lset, isRf_ref, isRf_null, isRf_rf, isC1_int, isC1_ref, isC1_null, isC1_rf, true_and, and_true, List.length_cons, List.length_nil, Nat.reduceAdd, Nat.reduceLeDiff, hK_sI, hN_sI, hR_sI, hI_sI, hK_sR, hN_sR, hR_sR, hI_sR, kC_2, kC_3, kC_4, kC_5, kC_6, kC_7, kC_8, kC_9, kC_10, kC_11, kC_20, kC_21, kC_22, kC_23, i2_0, i1_1, i0_1, i1_0, bI_and, bI_0, Decidable.not_not, not_false_eq_true, not_true_eq_false, forall_const, false_implies, true_implies, hK_copy, hN_copy, hI_copy, hC_sI, hC_sR, hC_new, hK_new, hN_new, hI_new, hR_new, rf_some, rf_none, ex_ref, ex_null, ex_rf, nref_null, rf_null, Nat.reduceEqDiff, reduceCtorEq, false_and, and_false, if_false, if_true, ne_eq, kO_150, kO_151, kO_152, kO_170, kO_180, kO_190, Value.ref.injEq, exists_eq_left', false_or]
        (repeat' (first | (with_reducible apply And.intro) | (with_reducible intro _)))
        all_goals first | exact k1 _ _ (bI_t (by clear hz hr hp k1; grind)).symm | exact k1 _ _ (bI_f (by clear hz hr hp k1; grind)).symm
      (repeat' (first | (with_reducible apply And.intro) | (with_reducible intro _)))
      all_goals first | exact k0 _ _ (bI_t (by clear hz hr hp k1 k0; grind)).symm | exact k0 _ _ (bI_f (by clear hz hr hp k1 k0; grind)).symm
    · exact hT.elim
  · unfold T_X9_hitsBox at hT
    split at hT
    · exact ⟨Nat.le_of_ble_eq_true rfl, by simp [isC1_int, isC1_ref, isC1_null, isC1_rf]⟩
    · exact hT.elim
def wp_X9_isAhead_160 (P : Option Value → hp_T → Prop) (X : String → hp_T → Prop) : KT :=
  i_zret P
set_option maxRecDepth 20000 in
theorem go_X9_isAhead_160 {z : zT} {P : Option Value → hp_T → Prop} {X : String → hp_T → Prop} (hz : Cx z cX9_isAhead 8 "PanelryModel" "isAhead" 1 0 0) (hr : Rt z (some .boolean) P X 0 0) : Go z 0 0 160 (wp_X9_isAhead_160 P X) := 
  s_zret hz hr rfl rfl dX9_isAhead_160
def wp_X9_isAhead_155 (P : Option Value → hp_T → Prop) (X : String → hp_T → Prop) : KT :=
  i_pushI 1 (wp_X9_isAhead_160 P X)
set_option maxRecDepth 20000 in
theorem go_X9_isAhead_155 {z : zT} {P : Option Value → hp_T → Prop} {X : String → hp_T → Prop} (hz : Cx z cX9_isAhead 8 "PanelryModel" "isAhead" 1 0 0) (hr : Rt z (some .boolean) P X 0 0) : Go z 0 0 155 (wp_X9_isAhead_155 P X) := 
  s_iconst hz rfl dX9_isAhead_155 (s_goto hz (tgt := 160) rfl dX9_isAhead_156 (go_X9_isAhead_160 hz hr))
def wp_X9_isAhead_159 (P : Option Value → hp_T → Prop) (X : String → hp_T → Prop) : KT :=
  i_pushI 0 (wp_X9_isAhead_160 P X)
set_option maxRecDepth 20000 in
theorem go_X9_isAhead_159 {z : zT} {P : Option Value → hp_T → Prop} {X : String → hp_T → Prop} (hz : Cx z cX9_isAhead 8 "PanelryModel" "isAhead" 1 0 0) (hr : Rt z (some .boolean) P X 0 0) : Go z 0 0 159 (wp_X9_isAhead_159 P X) := 
  s_iconst hz rfl dX9_isAhead_159 (go_X9_isAhead_160 hz hr)
def wp_X9_isAhead_84 (P : Option Value → hp_T → Prop) (X : String → hp_T → Prop) : KT :=
  i_istore 7 (i_iload 2 (i_iload 3 (i_iceq (wp_X9_isAhead_159 P X) (i_aload 0 (i_getR 11 714 (i_iload 6 (i_ald 110 (i_aload 0 (i_getR 11 714 (i_iload 5 (i_ald 110 (i_aload 0 (i_getR 11 716
    (i_iload 5 (i_ald 112 (i_iadd (i_icge (wp_X9_isAhead_155 P X) (i_aload 0 (i_getR 11 714 (i_iload 5 (i_ald 110 (i_aload 0 (i_getR 11 716 (i_iload 5 (i_ald 112 (i_aload 0 (i_getR 11 714
    (i_iload 6 (i_ald 110 (i_aload 0 (i_getR 11 716 (i_iload 6 (i_ald 112 (i_callS 4 T_X9_meet noX (i_ifeq (wp_X9_isAhead_159 P X) (i_iload 7 (i_ifeq (wp_X9_isAhead_159 P X) (wp_X9_isAhead_155 P X))))))))))))))))))))))))))))))))))))))
set_option maxRecDepth 20000 in
theorem go_X9_isAhead_84 {z : zT} {P : Option Value → hp_T → Prop} {X : String → hp_T → Prop} (hz : Cx z cX9_isAhead 8 "PanelryModel" "isAhead" 1 0 0) (hr : Rt z (some .boolean) P X 0 0) : Go z 0 0 84 (wp_X9_isAhead_84 P X) := 
  s_istore hz rfl dX9_isAhead_84 (s_iload_n hz rfl dX9_isAhead_86 (s_iload_n hz rfl dX9_isAhead_87 (s_iceq hz (tgt := 159) rfl dX9_isAhead_88 (go_X9_isAhead_159 hz hr) (s_aload_n hz rfl dX9_isAhead_91
    (fg_RX9_38 hz dX9_isAhead_92 (s_iload hz dX9_isAhead_95 (s_iald hz rfl rfl rfl dX9_isAhead_97 (s_aload_n hz rfl dX9_isAhead_98 (fg_RX9_38 hz dX9_isAhead_99 (s_iload hz dX9_isAhead_102
    (s_iald hz rfl rfl rfl dX9_isAhead_104 (s_aload_n hz rfl dX9_isAhead_105 (fg_RX9_44 hz dX9_isAhead_106 (s_iload hz dX9_isAhead_109 (s_iald hz rfl rfl rfl dX9_isAhead_111 (s_iadd hz dX9_isAhead_112
    (s_icge hz (tgt := 155) rfl dX9_isAhead_113 (go_X9_isAhead_155 hz hr) (s_aload_n hz rfl dX9_isAhead_116 (fg_RX9_38 hz dX9_isAhead_117 (s_iload hz dX9_isAhead_120 (s_iald hz rfl rfl rfl dX9_isAhead_122
    (s_aload_n hz rfl dX9_isAhead_123 (fg_RX9_44 hz dX9_isAhead_124 (s_iload hz dX9_isAhead_127 (s_iald hz rfl rfl rfl dX9_isAhead_129 (s_aload_n hz rfl dX9_isAhead_130 (fg_RX9_38 hz dX9_isAhead_131
    (s_iload hz dX9_isAhead_134 (s_iald hz rfl rfl rfl dX9_isAhead_136 (s_aload_n hz rfl dX9_isAhead_137 (fg_RX9_44 hz dX9_isAhead_138 (s_iload hz dX9_isAhead_141 (s_iald hz rfl rfl rfl dX9_isAhead_143
    (s_callS hz ct_X9_meet ⟨w1086, w1088, w33, by decide, by decide, by decide +kernel⟩ w1087 rfl rfl rfl rfl out_no dX9_isAhead_144 (s_ifeq hz (tgt := 159) rfl dX9_isAhead_147 (go_X9_isAhead_159 hz hr)
    (s_iload hz dX9_isAhead_150 (s_ifeq hz (tgt := 159) rfl dX9_isAhead_152 (go_X9_isAhead_159 hz hr) (go_X9_isAhead_155 hz hr))))))))))))))))))))))))))))))))))))))
def wp_X9_isAhead_0 (P : Option Value → hp_T → Prop) (X : String → hp_T → Prop) : KT :=
  i_pushI 8 (i_iload 1 (i_imul (i_iload 2 (i_iadd (i_istore 5 (i_pushI 8 (i_iload 1 (i_imul (i_iload 3 (i_iadd (i_istore 6 (i_iload 4 (i_ifeq (i_aload 0 (i_getR 11 713 (i_iload 6 (i_ald 109
    (i_aload 0 (i_getR 11 713 (i_iload 5 (i_ald 109 (i_aload 0 (i_getR 11 715 (i_iload 5 (i_ald 111 (i_iadd (i_iclt (i_pushI 0 (wp_X9_isAhead_84 P X)) (i_pushI 1 (wp_X9_isAhead_84 P X))))))))))))))))
    (i_aload 0 (i_getR 11 713 (i_iload 6 (i_ald 109 (i_aload 0 (i_getR 11 715 (i_iload 6 (i_ald 111 (i_iadd (i_aload 0 (i_getR 11 713 (i_iload 5 (i_ald 109 (i_icgt (i_pushI 0 (wp_X9_isAhead_84 P X))
    (i_pushI 1 (wp_X9_isAhead_84 P X)))))))))))))))))))))))))))))
set_option maxRecDepth 20000 in
theorem go_X9_isAhead_0 {z : zT} {P : Option Value → hp_T → Prop} {X : String → hp_T → Prop} (hz : Cx z cX9_isAhead 8 "PanelryModel" "isAhead" 1 0 0) (hr : Rt z (some .boolean) P X 0 0) : Go z 0 0 0 (wp_X9_isAhead_0 P X) := 
  s_bipush hz rfl dX9_isAhead_0 (s_iload_n hz rfl dX9_isAhead_2 (s_imul hz dX9_isAhead_3 (s_iload_n hz rfl dX9_isAhead_4 (s_iadd hz dX9_isAhead_5 (s_istore hz rfl dX9_isAhead_6 (s_bipush hz rfl dX9_isAhead_8
    (s_iload_n hz rfl dX9_isAhead_10 (s_imul hz dX9_isAhead_11 (s_iload_n hz rfl dX9_isAhead_12 (s_iadd hz dX9_isAhead_13 (s_istore hz rfl dX9_isAhead_14 (s_iload hz dX9_isAhead_16 (s_ifeq hz
    (tgt := 54) rfl dX9_isAhead_18 (s_aload_n hz rfl dX9_isAhead_54 (fg_RX9_35 hz dX9_isAhead_55 (s_iload hz dX9_isAhead_58 (s_iald hz rfl rfl rfl dX9_isAhead_60 (s_aload_n hz rfl dX9_isAhead_61
    (fg_RX9_35 hz dX9_isAhead_62 (s_iload hz dX9_isAhead_65 (s_iald hz rfl rfl rfl dX9_isAhead_67 (s_aload_n hz rfl dX9_isAhead_68 (fg_RX9_41 hz dX9_isAhead_69 (s_iload hz dX9_isAhead_72
    (s_iald hz rfl rfl rfl dX9_isAhead_74 (s_iadd hz dX9_isAhead_75 (s_iclt hz (tgt := 83) rfl dX9_isAhead_76 (s_iconst hz rfl dX9_isAhead_83 (go_X9_isAhead_84 hz hr)) (s_iconst hz rfl dX9_isAhead_79
    (s_goto hz (tgt := 84) rfl dX9_isAhead_80 (go_X9_isAhead_84 hz hr))))))))))))))))) (s_aload_n hz rfl dX9_isAhead_21 (fg_RX9_35 hz dX9_isAhead_22 (s_iload hz dX9_isAhead_25 (s_iald hz rfl rfl rfl dX9_isAhead_27
    (s_aload_n hz rfl dX9_isAhead_28 (fg_RX9_41 hz dX9_isAhead_29 (s_iload hz dX9_isAhead_32 (s_iald hz rfl rfl rfl dX9_isAhead_34 (s_iadd hz dX9_isAhead_35 (s_aload_n hz rfl dX9_isAhead_36
    (fg_RX9_35 hz dX9_isAhead_37 (s_iload hz dX9_isAhead_40 (s_iald hz rfl rfl rfl dX9_isAhead_42 (s_icgt hz (tgt := 50) rfl dX9_isAhead_43 (s_iconst hz rfl dX9_isAhead_50 (s_goto hz (tgt := 84) rfl dX9_isAhead_51
    (go_X9_isAhead_84 hz hr))) (s_iconst hz rfl dX9_isAhead_46 (s_goto hz (tgt := 84) rfl dX9_isAhead_47 (go_X9_isAhead_84 hz hr))))))))))))))))))))))))))))))

def T_X9_isAhead : PT := fun av h P X => match av with
  | [.ref m, .int v, .int x, .int y, .int l] => (mOK h m ∧ vp_in v 8 ∧ vp_in x 8 ∧ vp_in y 8) ∧ (P (some (.int (bI (ahM (sM h m) v.toNatClampNeg x.toNatClampNeg y.toNatClampNeg l)))) h)
  | _ => False
theorem tx_X9_isAhead (m : Nat) (v : Int32) (x : Int32) (y : Int32) (l : Int32) (h : hp_T) (P : Option Value → hp_T → Prop) (X : String → hp_T → Prop) : T_X9_isAhead [.ref m, .int v, .int x, .int y, .int l] h P X = ((mOK h m ∧ vp_in v 8 ∧ vp_in x 8 ∧ vp_in y 8) ∧ (P (some (.int (bI (ahM (sM h m) v.toNatClampNeg x.toNatClampNeg y.toNatClampNeg l)))) h)) := rfl
set_option maxRecDepth 20000 in
theorem ct_X9_isAhead : CT yX9_isAhead cX9_isAhead 8 (some .boolean) 1 0 0 T_X9_isAhead := by
  refine ct_ofE (by decide) (fun z av h P X hT hz hr => ?_) (fun av h P X hT => ?_)
  · unfold T_X9_isAhead at hT
    split at hT
    · refine ⟨_, go_X9_isAhead_0 hz hr, ?_⟩
      rename_i m v x y l
      show wp_X9_isAhead_0 P X [some (.ref m), some (.int v), some (.int x), some (.int y), some (.int l), none, none, none] [] h
      obtain ⟨hk, hp⟩ := hT
      obtain ⟨hm, hv, hx, hy⟩ := hk
      obtain ⟨p, hp8, rfl⟩ := vp_in_of hv (by omega)
      obtain ⟨a, ha8, rfl⟩ := vp_in_of hx (by omega)
      obtain ⟨b, hb8, rfl⟩ := vp_in_of hy (by omega)
      simp (disch := omega) only [cl_nI] at hp
      unfold ahM at hp
      have hab : nI a = nI b ↔ a = b := nI_eq (by omega) (by omega)
      have k0 : ∀ (o : Option Value) (v : Int32), v = bI ((if l = 0 then sM h m 9 (8 * p + a) + sM h m 11 (8 * p + a) ≤ sM h m 9 (8 * p + b) else sM h m 9 (8 * p + b) + sM h m 11 (8 * p + b) ≤ sM h m 9 (8 * p + a))) → wp_X9_isAhead_84 P X [some (.ref m), some (.int (nI p)), some (.int (nI a)), some (.int (nI b)), some (.int l), some (.int (nI (8 * p + a))), some (.int (nI (8 * p + b))), o] [.int v] h := by
        rintro o _ rfl
        simp (disch := omega) only [wp_X9_isAhead_84, wp_X9_isAhead_155, wp_X9_isAhead_159, wp_X9_isAhead_160, T_X9_meet, i_mmax, i_mmin, i_pushI, i_pushN, i_pushL, i_iload, i_aload, i_istore, i_astore, i_iinc, i_iadd, i_isub, i_imul, i_iand, i_ior, i_ixor, i_ishl, i_ishr, i_iushr, i_idiv, i_i2l, i_lcmp, i_dup, i_pop, i_dupx1, i_dup2, i_ifeq, i_ifne, i_iflt, i_ifge, i_ifgt, i_ifle, i_iceq, i_icne, i_iclt, i_icge, i_icgt, i_icle, i_ifnull, i_aceq, i_getI, i_getR, i_putI, i_putZ, i_putR, i_new, i_newarr, i_ald, i_lald, i_aald, i_alen, i_ast, i_zast, i_last, i_aast, i_aastL, i_cast, i_gste, i_ldcM, i_getC, i_acopy, i_dead, i_objinit, i_callV, i_callS, i_callI, i_iret, i_zret, i_aret, i_vret, i_throw, popN, pushO, lget, lset, isRf_ref, isRf_null, isRf_rf, isC1_int, isC1_ref, isC1_null, isC1_rf, true_and, and_true, List.length_cons, List.length_nil, Nat.reduceAdd, Nat.reduceLeDiff, hK_sI, hN_sI, hR_sI, hI_sI, hK_sR, hN_sR, hR_sR, hI_sR, kC_2, kC_3, kC_4, kC_5, kC_6, kC_7, kC_8, kC_9, kC_10, kC_11, kC_20, kC_21, kC_22, kC_23, i2_0, i1_1, i0_1, i1_0, bI_and, bI_0, Decidable.not_not, not_false_eq_true, not_true_eq_false, forall_const, false_implies, true_implies, hK_copy, hN_copy, hI_copy, hC_sI, hC_sR, hC_new, hK_new, hN_new, hI_new, hR_new, rf_some, rf_none, ex_ref, ex_null, ex_rf, nref_null, rf_null, Nat.reduceEqDiff, reduceCtorEq, false_and, and_false, if_false, if_true, ne_eq, kO_150, kO_151, kO_152, kO_170, kO_180, kO_190, Value.ref.injEq, exists_eq_left', false_or, mo_9 hm, mo_10 hm, mo_11 hm, mo_12 hm, rs_9, rs_10, rs_11, rs_12, mo_h hm, pk_in', cl_nI, nI_m8, nI_m12, nI_m20, nI_add, hab]
        (repeat' (first | (with_reducible apply And.intro) | (with_reducible intro _)))
        all_goals first | exact hp | (rw [bI_t (by clear hp; grind)] at hp; exact hp) | (rw [bI_f (by clear hp; grind)] at hp; exact hp) | (simp_all; done)
      simp (disch := omega) only [wp_X9_isAhead_0, T_X9_meet, i_mmax, i_mmin, i_pushI, i_pushN, i_pushL, i_iload, i_aload, i_istore, i_astore, i_iinc, i_iadd, i_isub, i_imul, i_iand, i_ior, i_ixor, i_ishl, i_ishr, i_iushr, i_idiv, i_i2l, i_lcmp, i_dup, i_pop, i_dupx1, i_dup2, i_ifeq, i_ifne, i_iflt, i_ifge, i_ifgt, i_ifle, i_iceq, i_icne, i_iclt, i_icge, i_icgt, i_icle, i_ifnull, i_aceq, i_getI, i_getR, i_putI, i_putZ, i_putR, i_new, i_newarr, i_ald, i_lald, i_aald, i_alen, i_ast, i_zast, i_last, i_aast, i_aastL, i_cast, i_gste, i_ldcM, i_getC, i_acopy, i_dead, i_objinit, i_callV, i_callS, i_callI, i_iret, i_zret, i_aret, i_vret, i_throw, popN, pushO, lget, lset, isRf_ref, isRf_null, isRf_rf, isC1_int, isC1_ref, isC1_null, isC1_rf, true_and, and_true, List.length_cons, List.length_nil, Nat.reduceAdd, Nat.reduceLeDiff, hK_sI, hN_sI, hR_sI, hI_sI, hK_sR, hN_sR, hR_sR, hI_sR, kC_2, kC_3, kC_4, kC_5, kC_6, kC_7, kC_8, kC_9, kC_10, kC_11, kC_20, kC_21, kC_22, kC_23, i2_0, i1_1, i0_1, i1_0, bI_and, bI_0, Decidable.not_not, not_false_eq_true, not_true_eq_false, forall_const, false_implies, true_implies, hK_copy, hN_copy, hI_copy, hC_sI, hC_sR, hC_new, hK_new, hN_new, hI_new, hR_new, rf_some, rf_none, ex_ref, ex_null, ex_rf, nref_null, rf_null, Nat.reduceEqDiff, reduceCtorEq, false_and, and_false, if_false, if_true, ne_eq, kO_150, kO_151, kO_152, kO_170, kO_180, kO_190, Value.ref.injEq, exists_eq_left', false_or, mo_9 hm, mo_10 hm, mo_11 hm, mo_12 hm, rs_9, rs_10, rs_11, rs_12, mo_h hm, pk_in', cl_nI, nI_m8, nI_m12, nI_m20, nI_add]
      (repeat' (first | (with_reducible apply And.intro) | (with_reducible intro _)))
      all_goals first | exact k0 _ _ (bI_t (by clear hz hr hp k0; grind)).symm | exact k0 _ _ (bI_f (by clear hz hr hp k0; grind)).symm
    · exact hT.elim
  · unfold T_X9_isAhead at hT
    split at hT
    · exact ⟨Nat.le_of_ble_eq_true rfl, by simp [isC1_int, isC1_ref, isC1_null, isC1_rf]⟩
    · exact hT.elim
def wp_X9_isPanel_29 (P : Option Value → hp_T → Prop) (X : String → hp_T → Prop) : KT :=
  i_zret P
set_option maxRecDepth 20000 in
theorem go_X9_isPanel_29 {z : zT} {P : Option Value → hp_T → Prop} {X : String → hp_T → Prop} (hz : Cx z cX9_isPanel 3 "PanelryModel" "isPanel" 2 0 0) (hr : Rt z (some .boolean) P X 0 0) : Go z 0 0 29 (wp_X9_isPanel_29 P X) := 
  s_zret hz hr rfl rfl dX9_isPanel_29
def wp_X9_isPanel_28 (P : Option Value → hp_T → Prop) (X : String → hp_T → Prop) : KT :=
  i_pushI 0 (wp_X9_isPanel_29 P X)
set_option maxRecDepth 20000 in
theorem go_X9_isPanel_28 {z : zT} {P : Option Value → hp_T → Prop} {X : String → hp_T → Prop} (hz : Cx z cX9_isPanel 3 "PanelryModel" "isPanel" 2 0 0) (hr : Rt z (some .boolean) P X 0 0) : Go z 0 0 28 (wp_X9_isPanel_28 P X) := 
  s_iconst hz rfl dX9_isPanel_28 (go_X9_isPanel_29 hz hr)
def wp_X9_isPanel_0 (P : Option Value → hp_T → Prop) (X : String → hp_T → Prop) : KT :=
  i_aload 0 (i_iload 1 (i_callV 1 11 T_X9_isPage noX (i_ifeq (wp_X9_isPanel_28 P X) (i_iload 2 (i_pushI 0 (i_aload 0 (i_getR 11 706 (i_iload 1 (i_ald 102 (i_pushI 1 (i_isub (i_callS 3 T_X9_within noX
    (i_ifeq (wp_X9_isPanel_28 P X) (i_pushI 1 (wp_X9_isPanel_29 P X)))))))))))))))
set_option maxRecDepth 20000 in
theorem go_X9_isPanel_0 {z : zT} {P : Option Value → hp_T → Prop} {X : String → hp_T → Prop} (hz : Cx z cX9_isPanel 3 "PanelryModel" "isPanel" 2 0 0) (hr : Rt z (some .boolean) P X 0 0) : Go z 0 0 0 (wp_X9_isPanel_0 P X) := 
  s_aload_n hz rfl dX9_isPanel_0 (s_iload_n hz rfl dX9_isPanel_1 (s_callV hz ct_X9_isPage ⟨w1075, w1078, w33, by decide, by decide, by decide +kernel⟩ w1077 w18 cls10 rfl rfl rfl rfl rfl rfl out_no dX9_isPanel_2
    (s_ifeq hz (tgt := 28) rfl dX9_isPanel_5 (go_X9_isPanel_28 hz hr) (s_iload_n hz rfl dX9_isPanel_8 (s_iconst hz rfl dX9_isPanel_9 (s_aload_n hz rfl dX9_isPanel_10 (fg_RX9_13 hz dX9_isPanel_11
    (s_iload_n hz rfl dX9_isPanel_14 (s_iald hz rfl rfl rfl dX9_isPanel_15 (s_iconst hz rfl dX9_isPanel_16 (s_isub hz dX9_isPanel_17 (s_callS hz ct_X9_within ⟨w1079, w1081, w33, by decide, by decide, by decide +kernel⟩ w1080 rfl rfl rfl rfl out_no dX9_isPanel_18
    (s_ifeq hz (tgt := 28) rfl dX9_isPanel_21 (go_X9_isPanel_28 hz hr) (s_iconst hz rfl dX9_isPanel_24 (s_goto hz (tgt := 29) rfl dX9_isPanel_25 (go_X9_isPanel_29 hz hr))))))))))))))))

def T_X9_isPanel : PT := fun av h P X => match av with
  | [.ref m, .int v, .int w] => (mOK h m ∧ (pgM (sM h m) v → vp_in v 8)) ∧ (P (some (.int (bI (pnM (sM h m) v w)))) h)
  | _ => False
theorem tx_X9_isPanel (m : Nat) (v : Int32) (w : Int32) (h : hp_T) (P : Option Value → hp_T → Prop) (X : String → hp_T → Prop) : T_X9_isPanel [.ref m, .int v, .int w] h P X = ((mOK h m ∧ (pgM (sM h m) v → vp_in v 8)) ∧ (P (some (.int (bI (pnM (sM h m) v w)))) h)) := rfl
set_option maxRecDepth 20000 in
theorem ct_X9_isPanel : CT yX9_isPanel cX9_isPanel 3 (some .boolean) 2 0 0 T_X9_isPanel := by
  refine ct_ofE (by decide) (fun z av h P X hT hz hr => ?_) (fun av h P X hT => ?_)
  · unfold T_X9_isPanel at hT
    split at hT
    · refine ⟨_, go_X9_isPanel_0 hz hr, ?_⟩
      rename_i m v w
      show wp_X9_isPanel_0 P X [some (.ref m), some (.int v), some (.int w)] [] h
      obtain ⟨hk, hp⟩ := hT
      obtain ⟨hm, hv⟩ := hk
      unfold pnM at hp
      by_cases c : pgM (sM h m) v
      · obtain ⟨p, hp8, rfl⟩ := vp_in_of (hv c) (by omega)
        rw [cl_nI (by omega)] at hp
        simp (disch := omega) only [wp_X9_isPanel_0, wp_X9_isPanel_28, wp_X9_isPanel_29, T_X9_isPage, T_X9_within, i_mmax, i_mmin, i_pushI, i_pushN, i_pushL, i_iload, i_aload, i_istore, i_astore, i_iinc, i_iadd, i_isub, i_imul, i_iand, i_ior, i_ixor, i_ishl, i_ishr, i_iushr, i_idiv, i_i2l, i_lcmp, i_dup, i_pop, i_dupx1, i_dup2, i_ifeq, i_ifne, i_iflt, i_ifge, i_ifgt, i_ifle, i_iceq, i_icne, i_iclt, i_icge, i_icgt, i_icle, i_ifnull, i_aceq, i_getI, i_getR, i_putI, i_putZ, i_putR, i_new, i_newarr, i_ald, i_lald, i_aald, i_alen, i_ast, i_zast, i_last, i_aast, i_aastL, i_cast, i_gste, i_ldcM, i_getC, i_acopy, i_dead, i_objinit, i_callV, i_callS, i_callI, i_iret, i_zret, i_aret, i_vret, i_throw, popN, pushO, lget, lset, isRf_ref, isRf_null, isRf_rf, isC1_int, isC1_ref, isC1_null, isC1_rf, true_and, and_true, List.length_cons, List.length_nil, Nat.reduceAdd, Nat.reduceLeDiff, hK_sI, hN_sI, hR_sI, hI_sI, hK_sR, hN_sR, hR_sR, hI_sR, kC_2, kC_3, kC_4, kC_5, kC_6, kC_7, kC_8, kC_9, kC_10, kC_11, kC_20, kC_21, kC_22, kC_23, i2_0, i1_1, i0_1, i1_0, bI_and, bI_0, Decidable.not_not, not_false_eq_true, not_true_eq_false, forall_const, false_implies, true_implies, hK_copy, hN_copy, hI_copy, hC_sI, hC_sR, hC_new, hK_new, hN_new, hI_new, hR_new, rf_some, rf_none, ex_ref, ex_null, ex_rf, nref_null, rf_null, Nat.reduceEqDiff, reduceCtorEq, false_and, and_false, if_false, if_true, ne_eq, kO_150, kO_151, kO_152, kO_170, kO_180, kO_190, Value.ref.injEq, exists_eq_left', false_or, mo_2 hm, rs_2, mo_h hm, pk_in', cl_nI, nI_m8, nI_m12, nI_m20, nI_add, c]
        (repeat' (first | (with_reducible apply And.intro) | (with_reducible intro _)))
        all_goals first | exact hp | (rw [bI_t (by clear hp; grind)] at hp; exact hp) | (rw [bI_f (by clear hp; grind)] at hp; exact hp) | (simp_all; done)
      · rw [bI_f (fun z => c z.1)] at hp
        simp (disch := omega) only [wp_X9_isPanel_0, wp_X9_isPanel_28, wp_X9_isPanel_29, T_X9_isPage, T_X9_within, i_mmax, i_mmin, i_pushI, i_pushN, i_pushL, i_iload, i_aload, i_istore, i_astore, i_iinc, i_iadd, i_isub, i_imul, i_iand, i_ior, i_ixor, i_ishl, i_ishr, i_iushr, i_idiv, i_i2l, i_lcmp, i_dup, i_pop, i_dupx1, i_dup2, i_ifeq, i_ifne, i_iflt, i_ifge, i_ifgt, i_ifle, i_iceq, i_icne, i_iclt, i_icge, i_icgt, i_icle, i_ifnull, i_aceq, i_getI, i_getR, i_putI, i_putZ, i_putR, i_new, i_newarr, i_ald, i_lald, i_aald, i_alen, i_ast, i_zast, i_last, i_aast, i_aastL, i_cast, i_gste, i_ldcM, i_getC, i_acopy, i_dead, i_objinit, i_callV, i_callS, i_callI, i_iret, i_zret, i_aret, i_vret, i_throw, popN, pushO, lget, lset, isRf_ref, isRf_null, isRf_rf, isC1_int, isC1_ref, isC1_null, isC1_rf, true_and, and_true, List.length_cons, List.length_nil, Nat.reduceAdd, Nat.reduceLeDiff, hK_sI, hN_sI, hR_sI, hI_sI, hK_sR, hN_sR, hR_sR, hI_sR, kC_2, kC_3, kC_4, kC_5, kC_6, kC_7, kC_8, kC_9, kC_10, kC_11, kC_20, kC_21, kC_22, kC_23, i2_0, i1_1, i0_1, i1_0, bI_and, bI_0, Decidable.not_not, not_false_eq_true, not_true_eq_false, forall_const, false_implies, true_implies, hK_copy, hN_copy, hI_copy, hC_sI, hC_sR, hC_new, hK_new, hN_new, hI_new, hR_new, rf_some, rf_none, ex_ref, ex_null, ex_rf, nref_null, rf_null, Nat.reduceEqDiff, reduceCtorEq, false_and, and_false, if_false, if_true, ne_eq, kO_150, kO_151, kO_152, kO_170, kO_180, kO_190, Value.ref.injEq, exists_eq_left', false_or, mo_2 hm, rs_2, mo_h hm, pk_in', cl_nI, nI_m8, nI_m12, nI_m20, nI_add, c]
        exact hp
    · exact hT.elim
  · unfold T_X9_isPanel at hT
    split at hT
    · exact ⟨Nat.le_of_ble_eq_true rfl, by simp [isC1_int, isC1_ref, isC1_null, isC1_rf]⟩
    · exact hT.elim
def wp_X9_isBalloon_29 (P : Option Value → hp_T → Prop) (X : String → hp_T → Prop) : KT :=
  i_zret P
set_option maxRecDepth 20000 in
theorem go_X9_isBalloon_29 {z : zT} {P : Option Value → hp_T → Prop} {X : String → hp_T → Prop} (hz : Cx z cX9_isBalloon 3 "PanelryModel" "isBalloon" 2 0 0) (hr : Rt z (some .boolean) P X 0 0) : Go z 0 0 29 (wp_X9_isBalloon_29 P X) := 
  s_zret hz hr rfl rfl dX9_isBalloon_29
def wp_X9_isBalloon_28 (P : Option Value → hp_T → Prop) (X : String → hp_T → Prop) : KT :=
  i_pushI 0 (wp_X9_isBalloon_29 P X)
set_option maxRecDepth 20000 in
theorem go_X9_isBalloon_28 {z : zT} {P : Option Value → hp_T → Prop} {X : String → hp_T → Prop} (hz : Cx z cX9_isBalloon 3 "PanelryModel" "isBalloon" 2 0 0) (hr : Rt z (some .boolean) P X 0 0) : Go z 0 0 28 (wp_X9_isBalloon_28 P X) := 
  s_iconst hz rfl dX9_isBalloon_28 (go_X9_isBalloon_29 hz hr)
def wp_X9_isBalloon_0 (P : Option Value → hp_T → Prop) (X : String → hp_T → Prop) : KT :=
  i_aload 0 (i_iload 1 (i_callV 1 11 T_X9_isPage noX (i_ifeq (wp_X9_isBalloon_28 P X) (i_iload 2 (i_pushI 0 (i_aload 0 (i_getR 11 707 (i_iload 1 (i_ald 103 (i_pushI 1 (i_isub (i_callS 3 T_X9_within noX
    (i_ifeq (wp_X9_isBalloon_28 P X) (i_pushI 1 (wp_X9_isBalloon_29 P X)))))))))))))))
set_option maxRecDepth 20000 in
theorem go_X9_isBalloon_0 {z : zT} {P : Option Value → hp_T → Prop} {X : String → hp_T → Prop} (hz : Cx z cX9_isBalloon 3 "PanelryModel" "isBalloon" 2 0 0) (hr : Rt z (some .boolean) P X 0 0) : Go z 0 0 0 (wp_X9_isBalloon_0 P X) := 
  s_aload_n hz rfl dX9_isBalloon_0 (s_iload_n hz rfl dX9_isBalloon_1 (s_callV hz ct_X9_isPage ⟨w1075, w1078, w33, by decide, by decide, by decide +kernel⟩ w1077 w18 cls10 rfl rfl rfl rfl rfl rfl out_no dX9_isBalloon_2
    (s_ifeq hz (tgt := 28) rfl dX9_isBalloon_5 (go_X9_isBalloon_28 hz hr) (s_iload_n hz rfl dX9_isBalloon_8 (s_iconst hz rfl dX9_isBalloon_9 (s_aload_n hz rfl dX9_isBalloon_10 (fg_RX9_17 hz dX9_isBalloon_11
    (s_iload_n hz rfl dX9_isBalloon_14 (s_iald hz rfl rfl rfl dX9_isBalloon_15 (s_iconst hz rfl dX9_isBalloon_16 (s_isub hz dX9_isBalloon_17 (s_callS hz ct_X9_within ⟨w1079, w1081, w33, by decide, by decide, by decide +kernel⟩ w1080 rfl rfl rfl rfl out_no dX9_isBalloon_18
    (s_ifeq hz (tgt := 28) rfl dX9_isBalloon_21 (go_X9_isBalloon_28 hz hr) (s_iconst hz rfl dX9_isBalloon_24 (s_goto hz (tgt := 29) rfl dX9_isBalloon_25 (go_X9_isBalloon_29 hz hr))))))))))))))))

def T_X9_isBalloon : PT := fun av h P X => match av with
  | [.ref m, .int v, .int w] => (mOK h m ∧ (pgM (sM h m) v → vp_in v 8)) ∧ (P (some (.int (bI (blM (sM h m) v w)))) h)
  | _ => False
theorem tx_X9_isBalloon (m : Nat) (v : Int32) (w : Int32) (h : hp_T) (P : Option Value → hp_T → Prop) (X : String → hp_T → Prop) : T_X9_isBalloon [.ref m, .int v, .int w] h P X = ((mOK h m ∧ (pgM (sM h m) v → vp_in v 8)) ∧ (P (some (.int (bI (blM (sM h m) v w)))) h)) := rfl
set_option maxRecDepth 20000 in
theorem ct_X9_isBalloon : CT yX9_isBalloon cX9_isBalloon 3 (some .boolean) 2 0 0 T_X9_isBalloon := by
  refine ct_ofE (by decide) (fun z av h P X hT hz hr => ?_) (fun av h P X hT => ?_)
  · unfold T_X9_isBalloon at hT
    split at hT
    · refine ⟨_, go_X9_isBalloon_0 hz hr, ?_⟩
      rename_i m v w
      show wp_X9_isBalloon_0 P X [some (.ref m), some (.int v), some (.int w)] [] h
      obtain ⟨hk, hp⟩ := hT
      obtain ⟨hm, hv⟩ := hk
      unfold blM at hp
      by_cases c : pgM (sM h m) v
      · obtain ⟨p, hp8, rfl⟩ := vp_in_of (hv c) (by omega)
        rw [cl_nI (by omega)] at hp
        simp (disch := omega) only [wp_X9_isBalloon_0, wp_X9_isBalloon_28, wp_X9_isBalloon_29, T_X9_isPage, T_X9_within, i_mmax, i_mmin, i_pushI, i_pushN, i_pushL, i_iload, i_aload, i_istore, i_astore, i_iinc, i_iadd, i_isub, i_imul, i_iand, i_ior, i_ixor, i_ishl, i_ishr, i_iushr, i_idiv, i_i2l, i_lcmp, i_dup, i_pop, i_dupx1, i_dup2, i_ifeq, i_ifne, i_iflt, i_ifge, i_ifgt, i_ifle, i_iceq, i_icne, i_iclt, i_icge, i_icgt, i_icle, i_ifnull, i_aceq, i_getI, i_getR, i_putI, i_putZ, i_putR, i_new, i_newarr, i_ald, i_lald, i_aald, i_alen, i_ast, i_zast, i_last, i_aast, i_aastL, i_cast, i_gste, i_ldcM, i_getC, i_acopy, i_dead, i_objinit, i_callV, i_callS, i_callI, i_iret, i_zret, i_aret, i_vret, i_throw, popN, pushO, lget, lset, isRf_ref, isRf_null, isRf_rf, isC1_int, isC1_ref, isC1_null, isC1_rf, true_and, and_true, List.length_cons, List.length_nil, Nat.reduceAdd, Nat.reduceLeDiff, hK_sI, hN_sI, hR_sI, hI_sI, hK_sR, hN_sR, hR_sR, hI_sR, kC_2, kC_3, kC_4, kC_5, kC_6, kC_7, kC_8, kC_9, kC_10, kC_11, kC_20, kC_21, kC_22, kC_23, i2_0, i1_1, i0_1, i1_0, bI_and, bI_0, Decidable.not_not, not_false_eq_true, not_true_eq_false, forall_const, false_implies, true_implies, hK_copy, hN_copy, hI_copy, hC_sI, hC_sR, hC_new, hK_new, hN_new, hI_new, hR_new, rf_some, rf_none, ex_ref, ex_null, ex_rf, nref_null, rf_null, Nat.reduceEqDiff, reduceCtorEq, false_and, and_false, if_false, if_true, ne_eq, kO_150, kO_151, kO_152, kO_170, kO_180, kO_190, Value.ref.injEq, exists_eq_left', false_or, mo_3 hm, rs_3, mo_h hm, pk_in', cl_nI, nI_m8, nI_m12, nI_m20, nI_add, c]
        (repeat' (first | (with_reducible apply And.intro) | (with_reducible intro _)))
        all_goals first | exact hp | (rw [bI_t (by clear hp; grind)] at hp; exact hp) | (rw [bI_f (by clear hp; grind)] at hp; exact hp) | (simp_all; done)
      · rw [bI_f (fun z => c z.1)] at hp
        simp (disch := omega) only [wp_X9_isBalloon_0, wp_X9_isBalloon_28, wp_X9_isBalloon_29, T_X9_isPage, T_X9_within, i_mmax, i_mmin, i_pushI, i_pushN, i_pushL, i_iload, i_aload, i_istore, i_astore, i_iinc, i_iadd, i_isub, i_imul, i_iand, i_ior, i_ixor, i_ishl, i_ishr, i_iushr, i_idiv, i_i2l, i_lcmp, i_dup, i_pop, i_dupx1, i_dup2, i_ifeq, i_ifne, i_iflt, i_ifge, i_ifgt, i_ifle, i_iceq, i_icne, i_iclt, i_icge, i_icgt, i_icle, i_ifnull, i_aceq, i_getI, i_getR, i_putI, i_putZ, i_putR, i_new, i_newarr, i_ald, i_lald, i_aald, i_alen, i_ast, i_zast, i_last, i_aast, i_aastL, i_cast, i_gste, i_ldcM, i_getC, i_acopy, i_dead, i_objinit, i_callV, i_callS, i_callI, i_iret, i_zret, i_aret, i_vret, i_throw, popN, pushO, lget, lset, isRf_ref, isRf_null, isRf_rf, isC1_int, isC1_ref, isC1_null, isC1_rf, true_and, and_true, List.length_cons, List.length_nil, Nat.reduceAdd, Nat.reduceLeDiff, hK_sI, hN_sI, hR_sI, hI_sI, hK_sR, hN_sR, hR_sR, hI_sR, kC_2, kC_3, kC_4, kC_5, kC_6, kC_7, kC_8, kC_9, kC_10, kC_11, kC_20, kC_21, kC_22, kC_23, i2_0, i1_1, i0_1, i1_0, bI_and, bI_0, Decidable.not_not, not_false_eq_true, not_true_eq_false, forall_const, false_implies, true_implies, hK_copy, hN_copy, hI_copy, hC_sI, hC_sR, hC_new, hK_new, hN_new, hI_new, hR_new, rf_some, rf_none, ex_ref, ex_null, ex_rf, nref_null, rf_null, Nat.reduceEqDiff, reduceCtorEq, false_and, and_false, if_false, if_true, ne_eq, kO_150, kO_151, kO_152, kO_170, kO_180, kO_190, Value.ref.injEq, exists_eq_left', false_or, mo_3 hm, rs_3, mo_h hm, pk_in', cl_nI, nI_m8, nI_m12, nI_m20, nI_add, c]
        exact hp
    · exact hT.elim
  · unfold T_X9_isBalloon at hT
    split at hT
    · exact ⟨Nat.le_of_ble_eq_true rfl, by simp [isC1_int, isC1_ref, isC1_null, isC1_rf]⟩
    · exact hT.elim
def wp_X9_tailOf_66 (P : Option Value → hp_T → Prop) (X : String → hp_T → Prop) : KT :=
  i_iret P
set_option maxRecDepth 20000 in
theorem go_X9_tailOf_66 {z : zT} {P : Option Value → hp_T → Prop} {X : String → hp_T → Prop} (hz : Cx z cX9_tailOf 5 "PanelryModel" "tailOf" 0 0 0) (hr : Rt z (some .int) P X 0 0) : Go z 0 0 66 (wp_X9_tailOf_66 P X) := 
  s_iret hz hr rfl rfl dX9_tailOf_66
def wp_X9_tailOf_65 (P : Option Value → hp_T → Prop) (X : String → hp_T → Prop) : KT :=
  i_pushI (-1) (wp_X9_tailOf_66 P X)
set_option maxRecDepth 20000 in
theorem go_X9_tailOf_65 {z : zT} {P : Option Value → hp_T → Prop} {X : String → hp_T → Prop} (hz : Cx z cX9_tailOf 5 "PanelryModel" "tailOf" 0 0 0) (hr : Rt z (some .int) P X 0 0) : Go z 0 0 65 (wp_X9_tailOf_65 P X) := 
  s_iconst hz rfl dX9_tailOf_65 (go_X9_tailOf_66 hz hr)
def wp_X9_tailOf_42 (P : Option Value → hp_T → Prop) (X : String → hp_T → Prop) : KT :=
  i_istore 4 (i_iload 4 (i_pushI (-1) (i_iceq (wp_X9_tailOf_65 P X) (i_aload 0 (i_getR 11 720 (i_iload 4 (i_ald 116 (i_ifle (wp_X9_tailOf_65 P X) (i_iload 4 (wp_X9_tailOf_66 P X))))))))))
set_option maxRecDepth 20000 in
theorem go_X9_tailOf_42 {z : zT} {P : Option Value → hp_T → Prop} {X : String → hp_T → Prop} (hz : Cx z cX9_tailOf 5 "PanelryModel" "tailOf" 0 0 0) (hr : Rt z (some .int) P X 0 0) : Go z 0 0 42 (wp_X9_tailOf_42 P X) := 
  s_istore hz rfl dX9_tailOf_42 (s_iload hz dX9_tailOf_44 (s_iconst hz rfl dX9_tailOf_46 (s_iceq hz (tgt := 65) rfl dX9_tailOf_47 (go_X9_tailOf_65 hz hr) (s_aload_n hz rfl dX9_tailOf_50
    (fg_RX9_53 hz dX9_tailOf_51 (s_iload hz dX9_tailOf_54 (s_iald hz rfl rfl rfl dX9_tailOf_56 (s_ifle hz (tgt := 65) rfl dX9_tailOf_57 (go_X9_tailOf_65 hz hr) (s_iload hz dX9_tailOf_60 (s_goto hz
    (tgt := 66) rfl dX9_tailOf_62 (go_X9_tailOf_66 hz hr)))))))))))
def wp_X9_tailOf_0 (P : Option Value → hp_T → Prop) (X : String → hp_T → Prop) : KT :=
  i_pushI 20 (i_iload 1 (i_imul (i_iload 2 (i_iadd (i_istore 3 (i_aload 0 (i_getR 11 728 (i_iload 3 (i_ald 124 (i_pushI (-1) (i_icne (i_pushI 12 (i_pushI 8 (i_iload 1 (i_imul (i_aload 0
    (i_getR 11 723 (i_iload 3 (i_ald 119 (i_iadd (i_imul (i_aload 0 (i_getR 11 728 (i_iload 3 (i_ald 124 (i_iadd (wp_X9_tailOf_42 P X)))))))))))))))) (i_pushI (-1) (wp_X9_tailOf_42 P X)))))))))))))
set_option maxRecDepth 20000 in
theorem go_X9_tailOf_0 {z : zT} {P : Option Value → hp_T → Prop} {X : String → hp_T → Prop} (hz : Cx z cX9_tailOf 5 "PanelryModel" "tailOf" 0 0 0) (hr : Rt z (some .int) P X 0 0) : Go z 0 0 0 (wp_X9_tailOf_0 P X) := 
  s_bipush hz rfl dX9_tailOf_0 (s_iload_n hz rfl dX9_tailOf_2 (s_imul hz dX9_tailOf_3 (s_iload_n hz rfl dX9_tailOf_4 (s_iadd hz dX9_tailOf_5 (s_istore_n hz rfl rfl dX9_tailOf_6 (s_aload_n hz rfl dX9_tailOf_7
    (fg_RX9_77 hz dX9_tailOf_8 (s_iload_n hz rfl dX9_tailOf_11 (s_iald hz rfl rfl rfl dX9_tailOf_12 (s_iconst hz rfl dX9_tailOf_13 (s_icne hz (tgt := 21) rfl dX9_tailOf_14 (s_bipush hz rfl dX9_tailOf_21
    (s_bipush hz rfl dX9_tailOf_23 (s_iload_n hz rfl dX9_tailOf_25 (s_imul hz dX9_tailOf_26 (s_aload_n hz rfl dX9_tailOf_27 (fg_RX9_62 hz dX9_tailOf_28 (s_iload_n hz rfl dX9_tailOf_31 (s_iald hz rfl rfl rfl dX9_tailOf_32
    (s_iadd hz dX9_tailOf_33 (s_imul hz dX9_tailOf_34 (s_aload_n hz rfl dX9_tailOf_35 (fg_RX9_77 hz dX9_tailOf_36 (s_iload_n hz rfl dX9_tailOf_39 (s_iald hz rfl rfl rfl dX9_tailOf_40 (s_iadd hz dX9_tailOf_41
    (go_X9_tailOf_42 hz hr)))))))))))))))) (s_iconst hz rfl dX9_tailOf_17 (s_goto hz (tgt := 42) rfl dX9_tailOf_18 (go_X9_tailOf_42 hz hr))))))))))))))

def T_X9_tailOf : PT := fun av h P X => match av with
  | [.ref m, .int v, .int w] => (mOK h m ∧ vp_in v 8 ∧ vp_in w 20 ∧ tlM (sM h m) v.toNatClampNeg w.toNatClampNeg) ∧ (P (some (.int (oI (tailM (sM h m) v.toNatClampNeg w.toNatClampNeg)))) h)
  | _ => False
theorem tx_X9_tailOf (m : Nat) (v : Int32) (w : Int32) (h : hp_T) (P : Option Value → hp_T → Prop) (X : String → hp_T → Prop) : T_X9_tailOf [.ref m, .int v, .int w] h P X = ((mOK h m ∧ vp_in v 8 ∧ vp_in w 20 ∧ tlM (sM h m) v.toNatClampNeg w.toNatClampNeg) ∧ (P (some (.int (oI (tailM (sM h m) v.toNatClampNeg w.toNatClampNeg)))) h)) := rfl
set_option maxRecDepth 20000 in
theorem ct_X9_tailOf : CT yX9_tailOf cX9_tailOf 5 (some .int) 0 0 0 T_X9_tailOf := by
  refine ct_ofE (by decide) (fun z av h P X hT hz hr => ?_) (fun av h P X hT => ?_)
  · unfold T_X9_tailOf at hT
    split at hT
    · refine ⟨_, go_X9_tailOf_0 hz hr, ?_⟩
      rename_i m v w
      show wp_X9_tailOf_0 P X [some (.ref m), some (.int v), some (.int w), none, none] [] h
      obtain ⟨hk, hp⟩ := hT
      obtain ⟨hm, hv, hw, hx⟩ := hk
      obtain ⟨p, hp8, rfl⟩ := vp_in_of hv (by omega)
      obtain ⟨k, hk8, rfl⟩ := vp_in_of hw (by omega)
      simp (disch := omega) only [cl_nI] at hp hx
      obtain ⟨j, hj, e1, e2⟩ := hx
      unfold tailM at hp
      rw [e1] at hp
      rcases e2 with e2 | ⟨f, hf, e2⟩
      · rw [if_pos e2] at hp
        simp (disch := omega) only [wp_X9_tailOf_0, wp_X9_tailOf_42, wp_X9_tailOf_65, wp_X9_tailOf_66, i_mmax, i_mmin, i_pushI, i_pushN, i_pushL, i_iload, i_aload, i_istore, i_astore, i_iinc, i_iadd, i_isub, i_imul, i_iand, i_ior, i_ixor, i_ishl, i_ishr, i_iushr, i_idiv, i_i2l, i_lcmp, i_dup, i_pop, i_dupx1, i_dup2, i_ifeq, i_ifne, i_iflt, i_ifge, i_ifgt, i_ifle, i_iceq, i_icne, i_iclt, i_icge, i_icgt, i_icle, i_ifnull, i_aceq, i_getI, i_getR, i_putI, i_putZ, i_putR, i_new, i_newarr, i_ald, i_lald, i_aald, i_alen, i_ast, i_zast, i_last, i_aast, i_aastL, i_cast, i_gste, i_ldcM, i_getC, i_acopy, i_dead, i_objinit, i_callV, i_callS, i_callI, i_iret, i_zret, i_aret, i_vret, i_throw, popN, pushO, lget, lset, isRf_ref, isRf_null, isRf_rf, isC1_int, isC1_ref, isC1_null, isC1_rf, true_and, and_true, List.length_cons, List.length_nil, Nat.reduceAdd, Nat.reduceLeDiff, hK_sI, hN_sI, hR_sI, hI_sI, hK_sR, hN_sR, hR_sR, hI_sR, kC_2, kC_3, kC_4, kC_5, kC_6, kC_7, kC_8, kC_9, kC_10, kC_11, kC_20, kC_21, kC_22, kC_23, i2_0, i1_1, i0_1, i1_0, bI_and, bI_0, Decidable.not_not, not_false_eq_true, not_true_eq_false, forall_const, false_implies, true_implies, hK_copy, hN_copy, hI_copy, hC_sI, hC_sR, hC_new, hK_new, hN_new, hI_new, hR_new, rf_some, rf_none, ex_ref, ex_null, ex_rf, nref_null, rf_null, Nat.reduceEqDiff, reduceCtorEq, false_and, and_false, if_false, if_true, ne_eq, kO_150, kO_151, kO_152, kO_170, kO_180, kO_190, Value.ref.injEq, exists_eq_left', false_or, mo_16 hm, mo_19 hm, mo_24 hm, rs_16, rs_19, rs_24, mo_h hm, pk_in', cl_nI, nI_m8, nI_m12, nI_m20, nI_add, e1, e2]
        exact hp
      · have e3 : ¬ nI f = -1 := by
          have : ∀ f, f < 12 → ¬ nI f = -1 := by decide
          exact this f hf
        have e4 : ¬ nI (12 * (8 * p + j) + f) = -1 := fun z => absurd (show (nI (12 * (8 * p + j) + f)) < 0 by rw [z]; decide) (nI_pos (by omega))
        rw [e2, if_neg e3, cl_nI (by omega), cl_nI (by omega)] at hp
        simp (disch := omega) only [wp_X9_tailOf_0, wp_X9_tailOf_42, wp_X9_tailOf_65, wp_X9_tailOf_66, i_mmax, i_mmin, i_pushI, i_pushN, i_pushL, i_iload, i_aload, i_istore, i_astore, i_iinc, i_iadd, i_isub, i_imul, i_iand, i_ior, i_ixor, i_ishl, i_ishr, i_iushr, i_idiv, i_i2l, i_lcmp, i_dup, i_pop, i_dupx1, i_dup2, i_ifeq, i_ifne, i_iflt, i_ifge, i_ifgt, i_ifle, i_iceq, i_icne, i_iclt, i_icge, i_icgt, i_icle, i_ifnull, i_aceq, i_getI, i_getR, i_putI, i_putZ, i_putR, i_new, i_newarr, i_ald, i_lald, i_aald, i_alen, i_ast, i_zast, i_last, i_aast, i_aastL, i_cast, i_gste, i_ldcM, i_getC, i_acopy, i_dead, i_objinit, i_callV, i_callS, i_callI, i_iret, i_zret, i_aret, i_vret, i_throw, popN, pushO, lget, lset, isRf_ref, isRf_null, isRf_rf, isC1_int, isC1_ref, isC1_null, isC1_rf, true_and, and_true, List.length_cons, List.length_nil, Nat.reduceAdd, Nat.reduceLeDiff, hK_sI, hN_sI, hR_sI, hI_sI, hK_sR, hN_sR, hR_sR, hI_sR, kC_2, kC_3, kC_4, kC_5, kC_6, kC_7, kC_8, kC_9, kC_10, kC_11, kC_20, kC_21, kC_22, kC_23, i2_0, i1_1, i0_1, i1_0, bI_and, bI_0, Decidable.not_not, not_false_eq_true, not_true_eq_false, forall_const, false_implies, true_implies, hK_copy, hN_copy, hI_copy, hC_sI, hC_sR, hC_new, hK_new, hN_new, hI_new, hR_new, rf_some, rf_none, ex_ref, ex_null, ex_rf, nref_null, rf_null, Nat.reduceEqDiff, reduceCtorEq, false_and, and_false, if_false, if_true, ne_eq, kO_150, kO_151, kO_152, kO_170, kO_180, kO_190, Value.ref.injEq, exists_eq_left', false_or, mo_16 hm, mo_19 hm, mo_24 hm, rs_16, rs_19, rs_24, mo_h hm, pk_in', cl_nI, nI_m8, nI_m12, nI_m20, nI_add, e1, e2, e3, e4]
        refine ⟨fun c => ?_, fun c => ?_⟩
        · rw [if_neg (Int32.not_lt.mpr c)] at hp; exact hp
        · rw [if_pos (Int32.not_le.mp c)] at hp; exact hp
    · exact hT.elim
  · unfold T_X9_tailOf at hT
    split at hT
    · exact ⟨Nat.le_of_ble_eq_true rfl, by simp [isC1_int, isC1_ref, isC1_null, isC1_rf]⟩
    · exact hT.elim
