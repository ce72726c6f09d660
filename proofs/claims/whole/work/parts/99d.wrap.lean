def Xo (cl : List (String × Int32)) (P : Option Value → hp_T → Prop) : String → hp_T → Prop := fun E h' => ∃ t, (E, t) ∈ cl ∧ P (some (.int t)) h'
def wp_L_page_0 (P : Option Value → hp_T → Prop) (X : String → hp_T → Prop) : KT :=
  i_aload 2 (i_pushI 0 (i_aload 0 (i_iload 1 (i_callV 1 10 T_X8_page X (i_i2l (i_last 180 (i_pushI 0 (i_iret P))))))))
theorem wx_L_page_0 (P : Option Value → hp_T → Prop) (X : String → hp_T → Prop) (ls : List (Option Value)) (st : List Value) (h : hp_T) : wp_L_page_0 P X ls st h = (i_aload 2 (i_pushI 0 (i_aload 0 (i_iload 1 (i_callV 1 10 T_X8_page X (i_i2l (i_last 180 (i_pushI 0 (i_iret P))))))))) ls st h := rfl
set_option maxRecDepth 20000 in
theorem go_L_page_0 {z : zT} {P : Option Value → hp_T → Prop} {X : String → hp_T → Prop} (hz : Cx z cL_page 4 "PanelryLaw" "page" 10 5 117) (hr : RtH z (some .int) P [(0, 9, 12, 13)] 5 117) (ho : OutOK z X 5 117 4) : Go z 0 0 0 (wp_L_page_0 P X) := 
  s_aload_n hz rfl dL_page_0 (s_iconst hz rfl dL_page_1 (s_aload_n hz rfl dL_page_2 (s_iload_n hz rfl dL_page_3 (s_callV hz ct_X8_page ⟨w229, w232, w29, by decide, by decide, by decide +kernel⟩ w230 w231 cls9 rfl rfl rfl rfl rfl rfl ho dL_page_4
    (s_i2l hz dL_page_7 (s_last hz rfl rfl rfl rfl dL_page_8 (s_goto hz (tgt := 15) rfl dL_page_9 (s_iconst hz rfl dL_page_15 (s_iretH hz hr rfl rfl dL_page_16)))))))))

def T_L_page : PTH := fun av h P => match av with
  | [.ref c, .int l, .ref o] => wp_L_page_0 P (Xo [("java/lang/IllegalStateException", 1)] P) [some (.ref c), some (.int l), some (.ref o), none] [] h
  | _ => False
theorem tx_L_page (c : Nat) (l : Int32) (o : Nat) (h : hp_T) (P : Option Value → hp_T → Prop) : T_L_page [.ref c, .int l, .ref o] h P = wp_L_page_0 P (Xo [("java/lang/IllegalStateException", 1)] P) [some (.ref c), some (.int l), some (.ref o), none] [] h := rfl
set_option maxRecDepth 20000 in
theorem ch_L_page : CTH yL_page cL_page 4 (some .int) [(0, 9, 12, 13)] 10 5 117 T_L_page := by
  refine ctH_of (by decide) (fun z av h P hT hz hn hr => ?_) (fun av h P hT => ?_)
  · unfold T_L_page at hT
    split at hT
    · have ho : OutOK z (Xo [("java/lang/IllegalStateException", 1)] P) 5 117 4 := out_h hz hn hr (fun E h' ⟨t, ht, hp⟩ => by
        simp only [List.mem_cons, List.not_mem_nil, or_false, Prod.mk.injEq] at ht
        obtain ⟨rfl, rfl⟩ := ht
        exact ⟨by simp [exL], [], ({ startPc := 0, endPc := 9, handlerPc := 12, catchType := 13 } : ExceptionTableEntry), [], rfl, (fun y hy => nomatch hy), rfl, by decide, w228, i_astore 3 (i_pushI 1 (i_iret P)), s_astore_n hz rfl rfl dL_page_12 (s_iconst hz rfl dL_page_13 (s_iretH hz hr rfl rfl dL_page_14)), fun ls q => ⟨isRf_ref q, hp⟩⟩)
      exact ⟨_, go_L_page_0 hz hr ho, hT⟩
    · exact hT.elim
  · unfold T_L_page at hT
    split at hT
    · exact ⟨Nat.le_of_ble_eq_true rfl, by simp [isC1_int, isC1_ref, isC1_null, isC1_rf]⟩
    · exact hT.elim
def wp_L_panel_0 (P : Option Value → hp_T → Prop) (X : String → hp_T → Prop) : KT :=
  i_aload 6 (i_pushI 0 (i_aload 0 (i_iload 1 (i_iload 2 (i_iload 3 (i_iload 4 (i_iload 5 (i_callV 5 10 T_X8_panel X (i_i2l (i_last 180 (i_pushI 0 (i_iret P))))))))))))
theorem wx_L_panel_0 (P : Option Value → hp_T → Prop) (X : String → hp_T → Prop) (ls : List (Option Value)) (st : List Value) (h : hp_T) : wp_L_panel_0 P X ls st h = (i_aload 6 (i_pushI 0 (i_aload 0 (i_iload 1 (i_iload 2 (i_iload 3 (i_iload 4 (i_iload 5 (i_callV 5 10 T_X8_panel X (i_i2l (i_last 180 (i_pushI 0 (i_iret P))))))))))))) ls st h := rfl
set_option maxRecDepth 20000 in
theorem go_L_panel_0 {z : zT} {P : Option Value → hp_T → Prop} {X : String → hp_T → Prop} (hz : Cx z cL_panel 8 "PanelryLaw" "panel" 9 10 154) (hr : RtH z (some .int) P [(0, 16, 19, 19), (0, 16, 23, 21), (0, 16, 27, 13)] 10 154) (ho : OutOK z X 10 154 11) : Go z 0 0 0 (wp_L_panel_0 P X) := 
  s_aload hz dL_panel_0 (s_iconst hz rfl dL_panel_2 (s_aload_n hz rfl dL_panel_3 (s_iload_n hz rfl dL_panel_4 (s_iload_n hz rfl dL_panel_5 (s_iload_n hz rfl dL_panel_6 (s_iload hz dL_panel_7
    (s_iload hz dL_panel_9 (s_callV hz ct_X8_panel ⟨w400, w403, w29, by decide, by decide, by decide +kernel⟩ w401 w402 cls9 rfl rfl rfl rfl rfl rfl ho dL_panel_11 (s_i2l hz dL_panel_14 (s_last hz rfl rfl rfl rfl dL_panel_15
    (s_goto hz (tgt := 31) rfl dL_panel_16 (s_iconst hz rfl dL_panel_31 (s_iretH hz hr rfl rfl dL_panel_32)))))))))))))

def T_L_panel : PTH := fun av h P => match av with
  | [.ref c, .int v, .int x, .int y, .int a, .int b, .ref o] => wp_L_panel_0 P (Xo [("java/lang/IndexOutOfBoundsException", 1), ("java/lang/IllegalArgumentException", 2), ("java/lang/IllegalStateException", 3)] P) [some (.ref c), some (.int v), some (.int x), some (.int y), some (.int a), some (.int b), some (.ref o), none] [] h
  | _ => False
theorem tx_L_panel (c : Nat) (v : Int32) (x : Int32) (y : Int32) (a : Int32) (b : Int32) (o : Nat) (h : hp_T) (P : Option Value → hp_T → Prop) : T_L_panel [.ref c, .int v, .int x, .int y, .int a, .int b, .ref o] h P = wp_L_panel_0 P (Xo [("java/lang/IndexOutOfBoundsException", 1), ("java/lang/IllegalArgumentException", 2), ("java/lang/IllegalStateException", 3)] P) [some (.ref c), some (.int v), some (.int x), some (.int y), some (.int a), some (.int b), some (.ref o), none] [] h := rfl
set_option maxRecDepth 20000 in
theorem ch_L_panel : CTH yL_panel cL_panel 8 (some .int) [(0, 16, 19, 19), (0, 16, 23, 21), (0, 16, 27, 13)] 9 10 154 T_L_panel := by
  refine ctH_of (by decide) (fun z av h P hT hz hn hr => ?_) (fun av h P hT => ?_)
  · unfold T_L_panel at hT
    split at hT
    · have ho : OutOK z (Xo [("java/lang/IndexOutOfBoundsException", 1), ("java/lang/IllegalArgumentException", 2), ("java/lang/IllegalStateException", 3)] P) 10 154 11 := out_h hz hn hr (fun E h' ⟨t, ht, hp⟩ => by
        simp only [List.mem_cons, List.not_mem_nil, or_false, Prod.mk.injEq] at ht
        rcases ht with ⟨rfl, rfl⟩ | ⟨rfl, rfl⟩ | ⟨rfl, rfl⟩
        · exact ⟨by simp [exL], [], ({ startPc := 0, endPc := 16, handlerPc := 19, catchType := 19 } : ExceptionTableEntry), [({ startPc := 0, endPc := 16, handlerPc := 23, catchType := 21 } : ExceptionTableEntry), ({ startPc := 0, endPc := 16, handlerPc := 27, catchType := 13 } : ExceptionTableEntry)], rfl, (fun y hy => nomatch hy), rfl, by decide, w398, i_astore 7 (i_pushI 1 (i_iret P)), s_astore hz rfl dL_panel_19 (s_iconst hz rfl dL_panel_21 (s_iretH hz hr rfl rfl dL_panel_22)), fun ls q => ⟨isRf_ref q, hp⟩⟩
        · exact ⟨by simp [exL], [({ startPc := 0, endPc := 16, handlerPc := 19, catchType := 19 } : ExceptionTableEntry)], ({ startPc := 0, endPc := 16, handlerPc := 23, catchType := 21 } : ExceptionTableEntry), [({ startPc := 0, endPc := 16, handlerPc := 27, catchType := 13 } : ExceptionTableEntry)], rfl, (by
        intro y hy
        simp only [List.mem_cons, List.not_mem_nil, or_false] at hy
        rcases hy with rfl
        · exact ⟨by decide, "java/lang/IndexOutOfBoundsException", by simp [exL], w398, by decide⟩), rfl, by decide, w399, i_astore 7 (i_pushI 2 (i_iret P)), s_astore hz rfl dL_panel_23 (s_iconst hz rfl dL_panel_25 (s_iretH hz hr rfl rfl dL_panel_26)), fun ls q => ⟨isRf_ref q, hp⟩⟩
        · exact ⟨by simp [exL], [({ startPc := 0, endPc := 16, handlerPc := 19, catchType := 19 } : ExceptionTableEntry), ({ startPc := 0, endPc := 16, handlerPc := 23, catchType := 21 } : ExceptionTableEntry)], ({ startPc := 0, endPc := 16, handlerPc := 27, catchType := 13 } : ExceptionTableEntry), [], rfl, (by
        intro y hy
        simp only [List.mem_cons, List.not_mem_nil, or_false] at hy
        rcases hy with rfl | rfl
        · exact ⟨by decide, "java/lang/IndexOutOfBoundsException", by simp [exL], w398, by decide⟩
        · exact ⟨by decide, "java/lang/IllegalArgumentException", by simp [exL], w399, by decide⟩), rfl, by decide, w228, i_astore 7 (i_pushI 3 (i_iret P)), s_astore hz rfl dL_panel_27 (s_iconst hz rfl dL_panel_29 (s_iretH hz hr rfl rfl dL_panel_30)), fun ls q => ⟨isRf_ref q, hp⟩⟩)
      exact ⟨_, go_L_panel_0 hz hr ho, hT⟩
    · exact hT.elim
  · unfold T_L_panel at hT
    split at hT
    · exact ⟨Nat.le_of_ble_eq_true rfl, by simp [isC1_int, isC1_ref, isC1_null, isC1_rf]⟩
    · exact hT.elim
def wp_L_turn_16 (P : Option Value → hp_T → Prop) (X : String → hp_T → Prop) : KT :=
  i_last 180 (i_pushI 0 (i_iret P))
theorem wx_L_turn_16 (P : Option Value → hp_T → Prop) (X : String → hp_T → Prop) (ls : List (Option Value)) (st : List Value) (h : hp_T) : wp_L_turn_16 P X ls st h = (i_last 180 (i_pushI 0 (i_iret P))) ls st h := rfl
set_option maxRecDepth 20000 in
theorem go_L_turn_16 {z : zT} {P : Option Value → hp_T → Prop} {X : String → hp_T → Prop} (hz : Cx z cL_turn 5 "PanelryLaw" "turn" 8 2 12) (hr : RtH z (some .int) P [(0, 17, 20, 19), (0, 17, 24, 13)] 2 12) (ho : OutOK z X 2 12 5) : Go z 2 12 16 (wp_L_turn_16 P X) := 
  s_last hz rfl rfl rfl rfl dL_turn_16 (s_goto hz (tgt := 28) rfl dL_turn_17 (s_iconst hz rfl dL_turn_28 (s_iretH hz hr rfl rfl dL_turn_29)))
def wp_L_turn_0 (P : Option Value → hp_T → Prop) (X : String → hp_T → Prop) : KT :=
  i_aload 3 (i_pushI 0 (i_aload 0 (i_iload 1 (i_iload 2 (i_callV 2 10 TC_X8_turn X (i_ifeq (i_pushL 0 (wp_L_turn_16 P X)) (i_pushL 1 (wp_L_turn_16 P X))))))))
theorem wx_L_turn_0 (P : Option Value → hp_T → Prop) (X : String → hp_T → Prop) (ls : List (Option Value)) (st : List Value) (h : hp_T) : wp_L_turn_0 P X ls st h = (i_aload 3 (i_pushI 0 (i_aload 0 (i_iload 1 (i_iload 2 (i_callV 2 10 TC_X8_turn X (i_ifeq (i_pushL 0 (wp_L_turn_16 P X)) (i_pushL 1 (wp_L_turn_16 P X))))))))) ls st h := rfl
set_option maxRecDepth 20000 in
theorem go_L_turn_0 {z : zT} {P : Option Value → hp_T → Prop} {X : String → hp_T → Prop} (hz : Cx z cL_turn 5 "PanelryLaw" "turn" 8 2 12) (hr : RtH z (some .int) P [(0, 17, 20, 19), (0, 17, 24, 13)] 2 12) (ho : OutOK z X 2 12 5) : Go z 0 0 0 (wp_L_turn_0 P X) := 
  s_aload_n hz rfl dL_turn_0 (s_iconst hz rfl dL_turn_1 (s_aload_n hz rfl dL_turn_2 (s_iload_n hz rfl dL_turn_3 (s_iload_n hz rfl dL_turn_4 (s_callV hz cc_X8_turn ⟨w522, w525, w29, by decide, by decide, by decide +kernel⟩ w523 w524 cls9 rfl rfl rfl rfl rfl rfl ho dL_turn_5
    (s_ifeq hz (tgt := 15) rfl dL_turn_8 (s_lconst hz rfl dL_turn_15 (go_L_turn_16 hz hr ho)) (s_lconst hz rfl dL_turn_11 (s_goto hz (tgt := 16) rfl dL_turn_12 (go_L_turn_16 hz hr ho)))))))))

def T_L_turn : PTH := fun av h P => match av with
  | [.ref c, .int v, .int l, .ref o] => wp_L_turn_0 P (Xo [("java/lang/IndexOutOfBoundsException", 1), ("java/lang/IllegalStateException", 2)] P) [some (.ref c), some (.int v), some (.int l), some (.ref o), none] [] h
  | _ => False
theorem tx_L_turn (c : Nat) (v : Int32) (l : Int32) (o : Nat) (h : hp_T) (P : Option Value → hp_T → Prop) : T_L_turn [.ref c, .int v, .int l, .ref o] h P = wp_L_turn_0 P (Xo [("java/lang/IndexOutOfBoundsException", 1), ("java/lang/IllegalStateException", 2)] P) [some (.ref c), some (.int v), some (.int l), some (.ref o), none] [] h := rfl
set_option maxRecDepth 20000 in
theorem ch_L_turn : CTH yL_turn cL_turn 5 (some .int) [(0, 17, 20, 19), (0, 17, 24, 13)] 8 2 12 T_L_turn := by
  refine ctH_of (by decide) (fun z av h P hT hz hn hr => ?_) (fun av h P hT => ?_)
  · unfold T_L_turn at hT
    split at hT
    · have ho : OutOK z (Xo [("java/lang/IndexOutOfBoundsException", 1), ("java/lang/IllegalStateException", 2)] P) 2 12 5 := out_h hz hn hr (fun E h' ⟨t, ht, hp⟩ => by
        simp only [List.mem_cons, List.not_mem_nil, or_false, Prod.mk.injEq] at ht
        rcases ht with ⟨rfl, rfl⟩ | ⟨rfl, rfl⟩
        · exact ⟨by simp [exL], [], ({ startPc := 0, endPc := 17, handlerPc := 20, catchType := 19 } : ExceptionTableEntry), [({ startPc := 0, endPc := 17, handlerPc := 24, catchType := 13 } : ExceptionTableEntry)], rfl, (fun y hy => nomatch hy), rfl, by decide, w398, i_astore 4 (i_pushI 1 (i_iret P)), s_astore hz rfl dL_turn_20 (s_iconst hz rfl dL_turn_22 (s_iretH hz hr rfl rfl dL_turn_23)), fun ls q => ⟨isRf_ref q, hp⟩⟩
        · exact ⟨by simp [exL], [({ startPc := 0, endPc := 17, handlerPc := 20, catchType := 19 } : ExceptionTableEntry)], ({ startPc := 0, endPc := 17, handlerPc := 24, catchType := 13 } : ExceptionTableEntry), [], rfl, (by
        intro y hy
        simp only [List.mem_cons, List.not_mem_nil, or_false] at hy
        rcases hy with rfl
        · exact ⟨by decide, "java/lang/IndexOutOfBoundsException", by simp [exL], w398, by decide⟩), rfl, by decide, w228, i_astore 4 (i_pushI 2 (i_iret P)), s_astore hz rfl dL_turn_24 (s_iconst hz rfl dL_turn_26 (s_iretH hz hr rfl rfl dL_turn_27)), fun ls q => ⟨isRf_ref q, hp⟩⟩)
      exact ⟨_, go_L_turn_0 hz hr ho, hT⟩
    · exact hT.elim
  · unfold T_L_turn at hT
    split at hT
    · exact ⟨Nat.le_of_ble_eq_true rfl, by simp [isC1_int, isC1_ref, isC1_null, isC1_rf]⟩
    · exact hT.elim
def wp_L_read_0 (P : Option Value → hp_T → Prop) (X : String → hp_T → Prop) : KT :=
  i_aload 4 (i_pushI 0 (i_aload 0 (i_iload 1 (i_iload 2 (i_iload 3 (i_callV 3 10 TC_X8_read X (i_i2l (i_last 180 (i_pushI 0 (i_iret P))))))))))
theorem wx_L_read_0 (P : Option Value → hp_T → Prop) (X : String → hp_T → Prop) (ls : List (Option Value)) (st : List Value) (h : hp_T) : wp_L_read_0 P X ls st h = (i_aload 4 (i_pushI 0 (i_aload 0 (i_iload 1 (i_iload 2 (i_iload 3 (i_callV 3 10 TC_X8_read X (i_i2l (i_last 180 (i_pushI 0 (i_iret P))))))))))) ls st h := rfl
set_option maxRecDepth 20000 in
theorem go_L_read_0 {z : zT} {P : Option Value → hp_T → Prop} {X : String → hp_T → Prop} (hz : Cx z cL_read 6 "PanelryLaw" "read" 16 3 19) (hr : RtH z (some .int) P [(0, 12, 15, 19)] 3 19) (ho : OutOK z X 3 19 7) : Go z 0 0 0 (wp_L_read_0 P X) := 
  s_aload hz dL_read_0 (s_iconst hz rfl dL_read_2 (s_aload_n hz rfl dL_read_3 (s_iload_n hz rfl dL_read_4 (s_iload_n hz rfl dL_read_5 (s_iload_n hz rfl dL_read_6 (s_callV hz cc_X8_read ⟨w529, w532, w29, by decide, by decide, by decide +kernel⟩ w530 w531 cls9 rfl rfl rfl rfl rfl rfl ho dL_read_7
    (s_i2l hz dL_read_10 (s_last hz rfl rfl rfl rfl dL_read_11 (s_goto hz (tgt := 19) rfl dL_read_12 (s_iconst hz rfl dL_read_19 (s_iretH hz hr rfl rfl dL_read_20)))))))))))

def T_L_read : PTH := fun av h P => match av with
  | [.ref c, .int v, .int l, .int x, .ref o] => wp_L_read_0 P (Xo [("java/lang/IndexOutOfBoundsException", 1)] P) [some (.ref c), some (.int v), some (.int l), some (.int x), some (.ref o), none] [] h
  | _ => False
theorem tx_L_read (c : Nat) (v : Int32) (l : Int32) (x : Int32) (o : Nat) (h : hp_T) (P : Option Value → hp_T → Prop) : T_L_read [.ref c, .int v, .int l, .int x, .ref o] h P = wp_L_read_0 P (Xo [("java/lang/IndexOutOfBoundsException", 1)] P) [some (.ref c), some (.int v), some (.int l), some (.int x), some (.ref o), none] [] h := rfl
set_option maxRecDepth 20000 in
theorem ch_L_read : CTH yL_read cL_read 6 (some .int) [(0, 12, 15, 19)] 16 3 19 T_L_read := by
  refine ctH_of (by decide) (fun z av h P hT hz hn hr => ?_) (fun av h P hT => ?_)
  · unfold T_L_read at hT
    split at hT
    · have ho : OutOK z (Xo [("java/lang/IndexOutOfBoundsException", 1)] P) 3 19 7 := out_h hz hn hr (fun E h' ⟨t, ht, hp⟩ => by
        simp only [List.mem_cons, List.not_mem_nil, or_false, Prod.mk.injEq] at ht
        obtain ⟨rfl, rfl⟩ := ht
        exact ⟨by simp [exL], [], ({ startPc := 0, endPc := 12, handlerPc := 15, catchType := 19 } : ExceptionTableEntry), [], rfl, (fun y hy => nomatch hy), rfl, by decide, w398, i_astore 5 (i_pushI 1 (i_iret P)), s_astore hz rfl dL_read_15 (s_iconst hz rfl dL_read_17 (s_iretH hz hr rfl rfl dL_read_18)), fun ls q => ⟨isRf_ref q, hp⟩⟩)
      exact ⟨_, go_L_read_0 hz hr ho, hT⟩
    · exact hT.elim
  · unfold T_L_read at hT
    split at hT
    · exact ⟨Nat.le_of_ble_eq_true rfl, by simp [isC1_int, isC1_ref, isC1_null, isC1_rf]⟩
    · exact hT.elim
def wp_L_doubts_0 (P : Option Value → hp_T → Prop) (X : String → hp_T → Prop) : KT :=
  i_aload 2 (i_pushI 0 (i_aload 0 (i_iload 1 (i_callV 1 10 TC_X8_doubts X (i_i2l (i_last 180 (i_pushI 0 (i_iret P))))))))
theorem wx_L_doubts_0 (P : Option Value → hp_T → Prop) (X : String → hp_T → Prop) (ls : List (Option Value)) (st : List Value) (h : hp_T) : wp_L_doubts_0 P X ls st h = (i_aload 2 (i_pushI 0 (i_aload 0 (i_iload 1 (i_callV 1 10 TC_X8_doubts X (i_i2l (i_last 180 (i_pushI 0 (i_iret P))))))))) ls st h := rfl
set_option maxRecDepth 20000 in
theorem go_L_doubts_0 {z : zT} {P : Option Value → hp_T → Prop} {X : String → hp_T → Prop} (hz : Cx z cL_doubts 4 "PanelryLaw" "doubts" 16 3 19) (hr : RtH z (some .int) P [(0, 9, 12, 19)] 3 19) (ho : OutOK z X 3 19 4) : Go z 0 0 0 (wp_L_doubts_0 P X) := 
  s_aload_n hz rfl dL_doubts_0 (s_iconst hz rfl dL_doubts_1 (s_aload_n hz rfl dL_doubts_2 (s_iload_n hz rfl dL_doubts_3 (s_callV hz cc_X8_doubts ⟨w539, w542, w29, by decide, by decide, by decide +kernel⟩ w540 w541 cls9 rfl rfl rfl rfl rfl rfl ho dL_doubts_4
    (s_i2l hz dL_doubts_7 (s_last hz rfl rfl rfl rfl dL_doubts_8 (s_goto hz (tgt := 15) rfl dL_doubts_9 (s_iconst hz rfl dL_doubts_15 (s_iretH hz hr rfl rfl dL_doubts_16)))))))))

def T_L_doubts : PTH := fun av h P => match av with
  | [.ref c, .int v, .ref o] => wp_L_doubts_0 P (Xo [("java/lang/IndexOutOfBoundsException", 1)] P) [some (.ref c), some (.int v), some (.ref o), none] [] h
  | _ => False
theorem tx_L_doubts (c : Nat) (v : Int32) (o : Nat) (h : hp_T) (P : Option Value → hp_T → Prop) : T_L_doubts [.ref c, .int v, .ref o] h P = wp_L_doubts_0 P (Xo [("java/lang/IndexOutOfBoundsException", 1)] P) [some (.ref c), some (.int v), some (.ref o), none] [] h := rfl
set_option maxRecDepth 20000 in
theorem ch_L_doubts : CTH yL_doubts cL_doubts 4 (some .int) [(0, 9, 12, 19)] 16 3 19 T_L_doubts := by
  refine ctH_of (by decide) (fun z av h P hT hz hn hr => ?_) (fun av h P hT => ?_)
  · unfold T_L_doubts at hT
    split at hT
    · have ho : OutOK z (Xo [("java/lang/IndexOutOfBoundsException", 1)] P) 3 19 4 := out_h hz hn hr (fun E h' ⟨t, ht, hp⟩ => by
        simp only [List.mem_cons, List.not_mem_nil, or_false, Prod.mk.injEq] at ht
        obtain ⟨rfl, rfl⟩ := ht
        exact ⟨by simp [exL], [], ({ startPc := 0, endPc := 9, handlerPc := 12, catchType := 19 } : ExceptionTableEntry), [], rfl, (fun y hy => nomatch hy), rfl, by decide, w398, i_astore 3 (i_pushI 1 (i_iret P)), s_astore_n hz rfl rfl dL_doubts_12 (s_iconst hz rfl dL_doubts_13 (s_iretH hz hr rfl rfl dL_doubts_14)), fun ls q => ⟨isRf_ref q, hp⟩⟩)
      exact ⟨_, go_L_doubts_0 hz hr ho, hT⟩
    · exact hT.elim
  · unfold T_L_doubts at hT
    split at hT
    · exact ⟨Nat.le_of_ble_eq_true rfl, by simp [isC1_int, isC1_ref, isC1_null, isC1_rf]⟩
    · exact hT.elim
def wp_L_orders_0 (P : Option Value → hp_T → Prop) (X : String → hp_T → Prop) : KT :=
  i_aload 3 (i_pushI 0 (i_aload 0 (i_iload 1 (i_iload 2 (i_callV 2 10 T_X8_orders X (i_i2l (i_last 180 (i_pushI 0 (i_iret P)))))))))
theorem wx_L_orders_0 (P : Option Value → hp_T → Prop) (X : String → hp_T → Prop) (ls : List (Option Value)) (st : List Value) (h : hp_T) : wp_L_orders_0 P X ls st h = (i_aload 3 (i_pushI 0 (i_aload 0 (i_iload 1 (i_iload 2 (i_callV 2 10 T_X8_orders X (i_i2l (i_last 180 (i_pushI 0 (i_iret P)))))))))) ls st h := rfl
set_option maxRecDepth 20000 in
theorem go_L_orders_0 {z : zT} {P : Option Value → hp_T → Prop} {X : String → hp_T → Prop} (hz : Cx z cL_orders 5 "PanelryLaw" "orders" 14 1 6) (hr : RtH z (some .int) P [(0, 10, 13, 19)] 1 6) (ho : OutOK z X 1 6 5) : Go z 0 0 0 (wp_L_orders_0 P X) := 
  s_aload_n hz rfl dL_orders_0 (s_iconst hz rfl dL_orders_1 (s_aload_n hz rfl dL_orders_2 (s_iload_n hz rfl dL_orders_3 (s_iload_n hz rfl dL_orders_4 (s_callV hz ct_X8_orders ⟨w546, w549, w29, by decide, by decide, by decide +kernel⟩ w547 w548 cls9 rfl rfl rfl rfl rfl rfl ho dL_orders_5
    (s_i2l hz dL_orders_8 (s_last hz rfl rfl rfl rfl dL_orders_9 (s_goto hz (tgt := 17) rfl dL_orders_10 (s_iconst hz rfl dL_orders_17 (s_iretH hz hr rfl rfl dL_orders_18))))))))))

def T_L_orders : PTH := fun av h P => match av with
  | [.ref c, .int v, .int l, .ref o] => wp_L_orders_0 P (Xo [("java/lang/IndexOutOfBoundsException", 1)] P) [some (.ref c), some (.int v), some (.int l), some (.ref o), none] [] h
  | _ => False
theorem tx_L_orders (c : Nat) (v : Int32) (l : Int32) (o : Nat) (h : hp_T) (P : Option Value → hp_T → Prop) : T_L_orders [.ref c, .int v, .int l, .ref o] h P = wp_L_orders_0 P (Xo [("java/lang/IndexOutOfBoundsException", 1)] P) [some (.ref c), some (.int v), some (.int l), some (.ref o), none] [] h := rfl
set_option maxRecDepth 20000 in
theorem ch_L_orders : CTH yL_orders cL_orders 5 (some .int) [(0, 10, 13, 19)] 14 1 6 T_L_orders := by
  refine ctH_of (by decide) (fun z av h P hT hz hn hr => ?_) (fun av h P hT => ?_)
  · unfold T_L_orders at hT
    split at hT
    · have ho : OutOK z (Xo [("java/lang/IndexOutOfBoundsException", 1)] P) 1 6 5 := out_h hz hn hr (fun E h' ⟨t, ht, hp⟩ => by
        simp only [List.mem_cons, List.not_mem_nil, or_false, Prod.mk.injEq] at ht
        obtain ⟨rfl, rfl⟩ := ht
        exact ⟨by simp [exL], [], ({ startPc := 0, endPc := 10, handlerPc := 13, catchType := 19 } : ExceptionTableEntry), [], rfl, (fun y hy => nomatch hy), rfl, by decide, w398, i_astore 4 (i_pushI 1 (i_iret P)), s_astore hz rfl dL_orders_13 (s_iconst hz rfl dL_orders_15 (s_iretH hz hr rfl rfl dL_orders_16)), fun ls q => ⟨isRf_ref q, hp⟩⟩)
      exact ⟨_, go_L_orders_0 hz hr ho, hT⟩
    · exact hT.elim
  · unfold T_L_orders at hT
    split at hT
    · exact ⟨Nat.le_of_ble_eq_true rfl, by simp [isC1_int, isC1_ref, isC1_null, isC1_rf]⟩
    · exact hT.elim
def wp_L_isOne_16 (P : Option Value → hp_T → Prop) (X : String → hp_T → Prop) : KT :=
  i_last 180 (i_pushI 0 (i_iret P))
theorem wx_L_isOne_16 (P : Option Value → hp_T → Prop) (X : String → hp_T → Prop) (ls : List (Option Value)) (st : List Value) (h : hp_T) : wp_L_isOne_16 P X ls st h = (i_last 180 (i_pushI 0 (i_iret P))) ls st h := rfl
set_option maxRecDepth 20000 in
theorem go_L_isOne_16 {z : zT} {P : Option Value → hp_T → Prop} {X : String → hp_T → Prop} (hz : Cx z cL_isOne 5 "PanelryLaw" "isOne" 16 3 19) (hr : RtH z (some .int) P [(0, 17, 20, 19)] 3 19) (ho : OutOK z X 3 19 5) : Go z 3 19 16 (wp_L_isOne_16 P X) := 
  s_last hz rfl rfl rfl rfl dL_isOne_16 (s_goto hz (tgt := 24) rfl dL_isOne_17 (s_iconst hz rfl dL_isOne_24 (s_iretH hz hr rfl rfl dL_isOne_25)))
def wp_L_isOne_0 (P : Option Value → hp_T → Prop) (X : String → hp_T → Prop) : KT :=
  i_aload 3 (i_pushI 0 (i_aload 0 (i_iload 1 (i_iload 2 (i_callV 2 10 TC_X8_isOne X (i_ifeq (i_pushL 0 (wp_L_isOne_16 P X)) (i_pushL 1 (wp_L_isOne_16 P X))))))))
theorem wx_L_isOne_0 (P : Option Value → hp_T → Prop) (X : String → hp_T → Prop) (ls : List (Option Value)) (st : List Value) (h : hp_T) : wp_L_isOne_0 P X ls st h = (i_aload 3 (i_pushI 0 (i_aload 0 (i_iload 1 (i_iload 2 (i_callV 2 10 TC_X8_isOne X (i_ifeq (i_pushL 0 (wp_L_isOne_16 P X)) (i_pushL 1 (wp_L_isOne_16 P X))))))))) ls st h := rfl
set_option maxRecDepth 20000 in
theorem go_L_isOne_0 {z : zT} {P : Option Value → hp_T → Prop} {X : String → hp_T → Prop} (hz : Cx z cL_isOne 5 "PanelryLaw" "isOne" 16 3 19) (hr : RtH z (some .int) P [(0, 17, 20, 19)] 3 19) (ho : OutOK z X 3 19 5) : Go z 0 0 0 (wp_L_isOne_0 P X) := 
  s_aload_n hz rfl dL_isOne_0 (s_iconst hz rfl dL_isOne_1 (s_aload_n hz rfl dL_isOne_2 (s_iload_n hz rfl dL_isOne_3 (s_iload_n hz rfl dL_isOne_4 (s_callV hz cc_X8_isOne ⟨w567, w570, w29, by decide, by decide, by decide +kernel⟩ w568 w569 cls9 rfl rfl rfl rfl rfl rfl ho dL_isOne_5
    (s_ifeq hz (tgt := 15) rfl dL_isOne_8 (s_lconst hz rfl dL_isOne_15 (go_L_isOne_16 hz hr ho)) (s_lconst hz rfl dL_isOne_11 (s_goto hz (tgt := 16) rfl dL_isOne_12 (go_L_isOne_16 hz hr ho)))))))))

def T_L_isOne : PTH := fun av h P => match av with
  | [.ref c, .int v, .int l, .ref o] => wp_L_isOne_0 P (Xo [("java/lang/IndexOutOfBoundsException", 1)] P) [some (.ref c), some (.int v), some (.int l), some (.ref o), none] [] h
  | _ => False
theorem tx_L_isOne (c : Nat) (v : Int32) (l : Int32) (o : Nat) (h : hp_T) (P : Option Value → hp_T → Prop) : T_L_isOne [.ref c, .int v, .int l, .ref o] h P = wp_L_isOne_0 P (Xo [("java/lang/IndexOutOfBoundsException", 1)] P) [some (.ref c), some (.int v), some (.int l), some (.ref o), none] [] h := rfl
set_option maxRecDepth 20000 in
theorem ch_L_isOne : CTH yL_isOne cL_isOne 5 (some .int) [(0, 17, 20, 19)] 16 3 19 T_L_isOne := by
  refine ctH_of (by decide) (fun z av h P hT hz hn hr => ?_) (fun av h P hT => ?_)
  · unfold T_L_isOne at hT
    split at hT
    · have ho : OutOK z (Xo [("java/lang/IndexOutOfBoundsException", 1)] P) 3 19 5 := out_h hz hn hr (fun E h' ⟨t, ht, hp⟩ => by
        simp only [List.mem_cons, List.not_mem_nil, or_false, Prod.mk.injEq] at ht
        obtain ⟨rfl, rfl⟩ := ht
        exact ⟨by simp [exL], [], ({ startPc := 0, endPc := 17, handlerPc := 20, catchType := 19 } : ExceptionTableEntry), [], rfl, (fun y hy => nomatch hy), rfl, by decide, w398, i_astore 4 (i_pushI 1 (i_iret P)), s_astore hz rfl dL_isOne_20 (s_iconst hz rfl dL_isOne_22 (s_iretH hz hr rfl rfl dL_isOne_23)), fun ls q => ⟨isRf_ref q, hp⟩⟩)
      exact ⟨_, go_L_isOne_0 hz hr ho, hT⟩
    · exact hT.elim
  · unfold T_L_isOne at hT
    split at hT
    · exact ⟨Nat.le_of_ble_eq_true rfl, by simp [isC1_int, isC1_ref, isC1_null, isC1_rf]⟩
    · exact hT.elim
def wp_L_mirror_0 (P : Option Value → hp_T → Prop) (X : String → hp_T → Prop) : KT :=
  i_aload 2 (i_pushI 0 (i_aload 0 (i_iload 1 (i_callV 1 10 T_X8_mirror X (i_i2l (i_last 180 (i_pushI 0 (i_iret P))))))))
theorem wx_L_mirror_0 (P : Option Value → hp_T → Prop) (X : String → hp_T → Prop) (ls : List (Option Value)) (st : List Value) (h : hp_T) : wp_L_mirror_0 P X ls st h = (i_aload 2 (i_pushI 0 (i_aload 0 (i_iload 1 (i_callV 1 10 T_X8_mirror X (i_i2l (i_last 180 (i_pushI 0 (i_iret P))))))))) ls st h := rfl
set_option maxRecDepth 20000 in
theorem go_L_mirror_0 {z : zT} {P : Option Value → hp_T → Prop} {X : String → hp_T → Prop} (hz : Cx z cL_mirror 4 "PanelryLaw" "mirror" 10 423 4912) (hr : RtH z (some .int) P [(0, 9, 12, 19), (0, 9, 15, 13)] 423 4912) (ho : OutOK z X 423 4912 4) : Go z 0 0 0 (wp_L_mirror_0 P X) := 
  s_aload_n hz rfl dL_mirror_0 (s_iconst hz rfl dL_mirror_1 (s_aload_n hz rfl dL_mirror_2 (s_iload_n hz rfl dL_mirror_3 (s_callV hz ct_X8_mirror ⟨w580, w583, w29, by decide, by decide, by decide +kernel⟩ w581 w582 cls9 rfl rfl rfl rfl rfl rfl ho dL_mirror_4
    (s_i2l hz dL_mirror_7 (s_last hz rfl rfl rfl rfl dL_mirror_8 (s_goto hz (tgt := 18) rfl dL_mirror_9 (s_iconst hz rfl dL_mirror_18 (s_iretH hz hr rfl rfl dL_mirror_19)))))))))

def T_L_mirror : PTH := fun av h P => match av with
  | [.ref c, .int v, .ref o] => wp_L_mirror_0 P (Xo [("java/lang/IndexOutOfBoundsException", 1), ("java/lang/IllegalStateException", 2)] P) [some (.ref c), some (.int v), some (.ref o), none] [] h
  | _ => False
theorem tx_L_mirror (c : Nat) (v : Int32) (o : Nat) (h : hp_T) (P : Option Value → hp_T → Prop) : T_L_mirror [.ref c, .int v, .ref o] h P = wp_L_mirror_0 P (Xo [("java/lang/IndexOutOfBoundsException", 1), ("java/lang/IllegalStateException", 2)] P) [some (.ref c), some (.int v), some (.ref o), none] [] h := rfl
set_option maxRecDepth 20000 in
theorem ch_L_mirror : CTH yL_mirror cL_mirror 4 (some .int) [(0, 9, 12, 19), (0, 9, 15, 13)] 10 423 4912 T_L_mirror := by
  refine ctH_of (by decide) (fun z av h P hT hz hn hr => ?_) (fun av h P hT => ?_)
  · unfold T_L_mirror at hT
    split at hT
    · have ho : OutOK z (Xo [("java/lang/IndexOutOfBoundsException", 1), ("java/lang/IllegalStateException", 2)] P) 423 4912 4 := out_h hz hn hr (fun E h' ⟨t, ht, hp⟩ => by
        simp only [List.mem_cons, List.not_mem_nil, or_false, Prod.mk.injEq] at ht
        rcases ht with ⟨rfl, rfl⟩ | ⟨rfl, rfl⟩
        · exact ⟨by simp [exL], [], ({ startPc := 0, endPc := 9, handlerPc := 12, catchType := 19 } : ExceptionTableEntry), [({ startPc := 0, endPc := 9, handlerPc := 15, catchType := 13 } : ExceptionTableEntry)], rfl, (fun y hy => nomatch hy), rfl, by decide, w398, i_astore 3 (i_pushI 1 (i_iret P)), s_astore_n hz rfl rfl dL_mirror_12 (s_iconst hz rfl dL_mirror_13 (s_iretH hz hr rfl rfl dL_mirror_14)), fun ls q => ⟨isRf_ref q, hp⟩⟩
        · exact ⟨by simp [exL], [({ startPc := 0, endPc := 9, handlerPc := 12, catchType := 19 } : ExceptionTableEntry)], ({ startPc := 0, endPc := 9, handlerPc := 15, catchType := 13 } : ExceptionTableEntry), [], rfl, (by
        intro y hy
        simp only [List.mem_cons, List.not_mem_nil, or_false] at hy
        rcases hy with rfl
        · exact ⟨by decide, "java/lang/IndexOutOfBoundsException", by simp [exL], w398, by decide⟩), rfl, by decide, w228, i_astore 3 (i_pushI 2 (i_iret P)), s_astore_n hz rfl rfl dL_mirror_15 (s_iconst hz rfl dL_mirror_16 (s_iretH hz hr rfl rfl dL_mirror_17)), fun ls q => ⟨isRf_ref q, hp⟩⟩)
      exact ⟨_, go_L_mirror_0 hz hr ho, hT⟩
    · exact hT.elim
  · unfold T_L_mirror at hT
    split at hT
    · exact ⟨Nat.le_of_ble_eq_true rfl, by simp [isC1_int, isC1_ref, isC1_null, isC1_rf]⟩
    · exact hT.elim
def wp_L_figure_0 (P : Option Value → hp_T → Prop) (X : String → hp_T → Prop) : KT :=
  i_aload 1 (i_pushI 0 (i_aload 0 (i_callV 0 10 TC_X8_figure X (i_i2l (i_last 180 (i_pushI 0 (i_iret P)))))))
theorem wx_L_figure_0 (P : Option Value → hp_T → Prop) (X : String → hp_T → Prop) (ls : List (Option Value)) (st : List Value) (h : hp_T) : wp_L_figure_0 P X ls st h = (i_aload 1 (i_pushI 0 (i_aload 0 (i_callV 0 10 TC_X8_figure X (i_i2l (i_last 180 (i_pushI 0 (i_iret P)))))))) ls st h := rfl
set_option maxRecDepth 20000 in
theorem go_L_figure_0 {z : zT} {P : Option Value → hp_T → Prop} {X : String → hp_T → Prop} (hz : Cx z cL_figure 3 "PanelryLaw" "figure" 7 1 6) (hr : RtH z (some .int) P [(0, 8, 11, 13)] 1 6) (ho : OutOK z X 1 6 3) : Go z 0 0 0 (wp_L_figure_0 P X) := 
  s_aload_n hz rfl dL_figure_0 (s_iconst hz rfl dL_figure_1 (s_aload_n hz rfl dL_figure_2 (s_callV hz cc_X8_figure ⟨w666, w669, w29, by decide, by decide, by decide +kernel⟩ w667 w668 cls9 rfl rfl rfl rfl rfl rfl ho dL_figure_3
    (s_i2l hz dL_figure_6 (s_last hz rfl rfl rfl rfl dL_figure_7 (s_goto hz (tgt := 14) rfl dL_figure_8 (s_iconst hz rfl dL_figure_14 (s_iretH hz hr rfl rfl dL_figure_15))))))))

def T_L_figure : PTH := fun av h P => match av with
  | [.ref c, .ref o] => wp_L_figure_0 P (Xo [("java/lang/IllegalStateException", 1)] P) [some (.ref c), some (.ref o), none] [] h
  | _ => False
theorem tx_L_figure (c : Nat) (o : Nat) (h : hp_T) (P : Option Value → hp_T → Prop) : T_L_figure [.ref c, .ref o] h P = wp_L_figure_0 P (Xo [("java/lang/IllegalStateException", 1)] P) [some (.ref c), some (.ref o), none] [] h := rfl
set_option maxRecDepth 20000 in
theorem ch_L_figure : CTH yL_figure cL_figure 3 (some .int) [(0, 8, 11, 13)] 7 1 6 T_L_figure := by
  refine ctH_of (by decide) (fun z av h P hT hz hn hr => ?_) (fun av h P hT => ?_)
  · unfold T_L_figure at hT
    split at hT
    · have ho : OutOK z (Xo [("java/lang/IllegalStateException", 1)] P) 1 6 3 := out_h hz hn hr (fun E h' ⟨t, ht, hp⟩ => by
        simp only [List.mem_cons, List.not_mem_nil, or_false, Prod.mk.injEq] at ht
        obtain ⟨rfl, rfl⟩ := ht
        exact ⟨by simp [exL], [], ({ startPc := 0, endPc := 8, handlerPc := 11, catchType := 13 } : ExceptionTableEntry), [], rfl, (fun y hy => nomatch hy), rfl, by decide, w228, i_astore 2 (i_pushI 1 (i_iret P)), s_astore_n hz rfl rfl dL_figure_11 (s_iconst hz rfl dL_figure_12 (s_iretH hz hr rfl rfl dL_figure_13)), fun ls q => ⟨isRf_ref q, hp⟩⟩)
      exact ⟨_, go_L_figure_0 hz hr ho, hT⟩
    · exact hT.elim
  · unfold T_L_figure at hT
    split at hT
    · exact ⟨Nat.le_of_ble_eq_true rfl, by simp [isC1_int, isC1_ref, isC1_null, isC1_rf]⟩
    · exact hT.elim
def wp_L_draw_0 (P : Option Value → hp_T → Prop) (X : String → hp_T → Prop) : KT :=
  i_aload 0 (i_iload 1 (i_iload 2 (i_iload 3 (i_iload 4 (i_iload 5 (i_iload 6 (i_iload 7 (i_iload 8 (i_callV 8 10 T_X8_draw X (i_pushI 0 (i_iret P)))))))))))
theorem wx_L_draw_0 (P : Option Value → hp_T → Prop) (X : String → hp_T → Prop) (ls : List (Option Value)) (st : List Value) (h : hp_T) : wp_L_draw_0 P X ls st h = (i_aload 0 (i_iload 1 (i_iload 2 (i_iload 3 (i_iload 4 (i_iload 5 (i_iload 6 (i_iload 7 (i_iload 8 (i_callV 8 10 T_X8_draw X (i_pushI 0 (i_iret P)))))))))))) ls st h := rfl
set_option maxRecDepth 20000 in
theorem go_L_draw_0 {z : zT} {P : Option Value → hp_T → Prop} {X : String → hp_T → Prop} (hz : Cx z cL_draw 10 "PanelryLaw" "draw" 8 8 43) (hr : RtH z (some .int) P [(0, 17, 20, 19), (0, 17, 24, 21), (0, 17, 28, 13)] 8 43) (ho : OutOK z X 8 43 14) : Go z 0 0 0 (wp_L_draw_0 P X) := 
  s_aload_n hz rfl dL_draw_0 (s_iload_n hz rfl dL_draw_1 (s_iload_n hz rfl dL_draw_2 (s_iload_n hz rfl dL_draw_3 (s_iload hz dL_draw_4 (s_iload hz dL_draw_6 (s_iload hz dL_draw_8 (s_iload hz dL_draw_10
    (s_iload hz dL_draw_12 (s_callV hz ct_X8_draw ⟨w674, w677, w29, by decide, by decide, by decide +kernel⟩ w675 w676 cls9 rfl rfl rfl rfl rfl rfl ho dL_draw_14 (s_goto hz (tgt := 32) rfl dL_draw_17
    (s_iconst hz rfl dL_draw_32 (s_iretH hz hr rfl rfl dL_draw_33))))))))))))

def T_L_draw : PTH := fun av h P => match av with
  | [.ref c, .int v, .int w, .int f, .int x, .int y, .int s, .int e, .int ch] => wp_L_draw_0 P (Xo [("java/lang/IndexOutOfBoundsException", 1), ("java/lang/IllegalArgumentException", 2), ("java/lang/IllegalStateException", 3)] P) [some (.ref c), some (.int v), some (.int w), some (.int f), some (.int x), some (.int y), some (.int s), some (.int e), some (.int ch), none] [] h
  | _ => False
theorem tx_L_draw (c : Nat) (v : Int32) (w : Int32) (f : Int32) (x : Int32) (y : Int32) (s : Int32) (e : Int32) (ch : Int32) (h : hp_T) (P : Option Value → hp_T → Prop) : T_L_draw [.ref c, .int v, .int w, .int f, .int x, .int y, .int s, .int e, .int ch] h P = wp_L_draw_0 P (Xo [("java/lang/IndexOutOfBoundsException", 1), ("java/lang/IllegalArgumentException", 2), ("java/lang/IllegalStateException", 3)] P) [some (.ref c), some (.int v), some (.int w), some (.int f), some (.int x), some (.int y), some (.int s), some (.int e), some (.int ch), none] [] h := rfl
set_option maxRecDepth 20000 in
theorem ch_L_draw : CTH yL_draw cL_draw 10 (some .int) [(0, 17, 20, 19), (0, 17, 24, 21), (0, 17, 28, 13)] 8 8 43 T_L_draw := by
  refine ctH_of (by decide) (fun z av h P hT hz hn hr => ?_) (fun av h P hT => ?_)
  · unfold T_L_draw at hT
    split at hT
    · have ho : OutOK z (Xo [("java/lang/IndexOutOfBoundsException", 1), ("java/lang/IllegalArgumentException", 2), ("java/lang/IllegalStateException", 3)] P) 8 43 14 := out_h hz hn hr (fun E h' ⟨t, ht, hp⟩ => by
        simp only [List.mem_cons, List.not_mem_nil, or_false, Prod.mk.injEq] at ht
        rcases ht with ⟨rfl, rfl⟩ | ⟨rfl, rfl⟩ | ⟨rfl, rfl⟩
        · exact ⟨by simp [exL], [], ({ startPc := 0, endPc := 17, handlerPc := 20, catchType := 19 } : ExceptionTableEntry), [({ startPc := 0, endPc := 17, handlerPc := 24, catchType := 21 } : ExceptionTableEntry), ({ startPc := 0, endPc := 17, handlerPc := 28, catchType := 13 } : ExceptionTableEntry)], rfl, (fun y hy => nomatch hy), rfl, by decide, w398, i_astore 9 (i_pushI 1 (i_iret P)), s_astore hz rfl dL_draw_20 (s_iconst hz rfl dL_draw_22 (s_iretH hz hr rfl rfl dL_draw_23)), fun ls q => ⟨isRf_ref q, hp⟩⟩
        · exact ⟨by simp [exL], [({ startPc := 0, endPc := 17, handlerPc := 20, catchType := 19 } : ExceptionTableEntry)], ({ startPc := 0, endPc := 17, handlerPc := 24, catchType := 21 } : ExceptionTableEntry), [({ startPc := 0, endPc := 17, handlerPc := 28, catchType := 13 } : ExceptionTableEntry)], rfl, (by
        intro y hy
        simp only [List.mem_cons, List.not_mem_nil, or_false] at hy
        rcases hy with rfl
        · exact ⟨by decide, "java/lang/IndexOutOfBoundsException", by simp [exL], w398, by decide⟩), rfl, by decide, w399, i_astore 9 (i_pushI 2 (i_iret P)), s_astore hz rfl dL_draw_24 (s_iconst hz rfl dL_draw_26 (s_iretH hz hr rfl rfl dL_draw_27)), fun ls q => ⟨isRf_ref q, hp⟩⟩
        · exact ⟨by simp [exL], [({ startPc := 0, endPc := 17, handlerPc := 20, catchType := 19 } : ExceptionTableEntry), ({ startPc := 0, endPc := 17, handlerPc := 24, catchType := 21 } : ExceptionTableEntry)], ({ startPc := 0, endPc := 17, handlerPc := 28, catchType := 13 } : ExceptionTableEntry), [], rfl, (by
        intro y hy
        simp only [List.mem_cons, List.not_mem_nil, or_false] at hy
        rcases hy with rfl | rfl
        · exact ⟨by decide, "java/lang/IndexOutOfBoundsException", by simp [exL], w398, by decide⟩
        · exact ⟨by decide, "java/lang/IllegalArgumentException", by simp [exL], w399, by decide⟩), rfl, by decide, w228, i_astore 9 (i_pushI 3 (i_iret P)), s_astore hz rfl dL_draw_28 (s_iconst hz rfl dL_draw_30 (s_iretH hz hr rfl rfl dL_draw_31)), fun ls q => ⟨isRf_ref q, hp⟩⟩)
      exact ⟨_, go_L_draw_0 hz hr ho, hT⟩
    · exact hT.elim
  · unfold T_L_draw at hT
    split at hT
    · exact ⟨Nat.le_of_ble_eq_true rfl, by simp [isC1_int, isC1_ref, isC1_null, isC1_rf]⟩
    · exact hT.elim
def wp_L_balloon_0 (P : Option Value → hp_T → Prop) (X : String → hp_T → Prop) : KT :=
  i_aload 9 (i_pushI 0 (i_aload 0 (i_iload 1 (i_iload 2 (i_iload 3 (i_iload 4 (i_iload 5 (i_iload 6 (i_iload 7 (i_iload 8 (i_callV 8 10 T_X8_balloon X (i_i2l (i_last 180 (i_pushI 0 (i_iret P)))))))))))))))
theorem wx_L_balloon_0 (P : Option Value → hp_T → Prop) (X : String → hp_T → Prop) (ls : List (Option Value)) (st : List Value) (h : hp_T) : wp_L_balloon_0 P X ls st h = (i_aload 9 (i_pushI 0 (i_aload 0 (i_iload 1 (i_iload 2 (i_iload 3 (i_iload 4 (i_iload 5 (i_iload 6 (i_iload 7 (i_iload 8 (i_callV 8 10 T_X8_balloon X (i_i2l (i_last 180 (i_pushI 0 (i_iret P)))))))))))))))) ls st h := rfl
set_option maxRecDepth 20000 in
theorem go_L_balloon_0 {z : zT} {P : Option Value → hp_T → Prop} {X : String → hp_T → Prop} (hz : Cx z cL_balloon 11 "PanelryLaw" "balloon" 9 12 162) (hr : RtH z (some .int) P [(0, 22, 25, 19), (0, 22, 29, 21), (0, 22, 33, 13)] 12 162) (ho : OutOK z X 12 162 17) : Go z 0 0 0 (wp_L_balloon_0 P X) := 
  s_aload hz dL_balloon_0 (s_iconst hz rfl dL_balloon_2 (s_aload_n hz rfl dL_balloon_3 (s_iload_n hz rfl dL_balloon_4 (s_iload_n hz rfl dL_balloon_5 (s_iload_n hz rfl dL_balloon_6 (s_iload hz dL_balloon_7
    (s_iload hz dL_balloon_9 (s_iload hz dL_balloon_11 (s_iload hz dL_balloon_13 (s_iload hz dL_balloon_15 (s_callV hz ct_X8_balloon ⟨w698, w701, w29, by decide, by decide, by decide +kernel⟩ w699 w700 cls9 rfl rfl rfl rfl rfl rfl ho dL_balloon_17
    (s_i2l hz dL_balloon_20 (s_last hz rfl rfl rfl rfl dL_balloon_21 (s_goto hz (tgt := 37) rfl dL_balloon_22 (s_iconst hz rfl dL_balloon_37 (s_iretH hz hr rfl rfl dL_balloon_38))))))))))))))))

def T_L_balloon : PTH := fun av h P => match av with
  | [.ref c, .int v, .int w, .int x, .int y, .int a, .int b, .int f, .int l, .ref o] => wp_L_balloon_0 P (Xo [("java/lang/IndexOutOfBoundsException", 1), ("java/lang/IllegalArgumentException", 2), ("java/lang/IllegalStateException", 3)] P) [some (.ref c), some (.int v), some (.int w), some (.int x), some (.int y), some (.int a), some (.int b), some (.int f), some (.int l), some (.ref o), none] [] h
  | _ => False
theorem tx_L_balloon (c : Nat) (v : Int32) (w : Int32) (x : Int32) (y : Int32) (a : Int32) (b : Int32) (f : Int32) (l : Int32) (o : Nat) (h : hp_T) (P : Option Value → hp_T → Prop) : T_L_balloon [.ref c, .int v, .int w, .int x, .int y, .int a, .int b, .int f, .int l, .ref o] h P = wp_L_balloon_0 P (Xo [("java/lang/IndexOutOfBoundsException", 1), ("java/lang/IllegalArgumentException", 2), ("java/lang/IllegalStateException", 3)] P) [some (.ref c), some (.int v), some (.int w), some (.int x), some (.int y), some (.int a), some (.int b), some (.int f), some (.int l), some (.ref o), none] [] h := rfl
set_option maxRecDepth 20000 in
theorem ch_L_balloon : CTH yL_balloon cL_balloon 11 (some .int) [(0, 22, 25, 19), (0, 22, 29, 21), (0, 22, 33, 13)] 9 12 162 T_L_balloon := by
  refine ctH_of (by decide) (fun z av h P hT hz hn hr => ?_) (fun av h P hT => ?_)
  · unfold T_L_balloon at hT
    split at hT
    · have ho : OutOK z (Xo [("java/lang/IndexOutOfBoundsException", 1), ("java/lang/IllegalArgumentException", 2), ("java/lang/IllegalStateException", 3)] P) 12 162 17 := out_h hz hn hr (fun E h' ⟨t, ht, hp⟩ => by
        simp only [List.mem_cons, List.not_mem_nil, or_false, Prod.mk.injEq] at ht
        rcases ht with ⟨rfl, rfl⟩ | ⟨rfl, rfl⟩ | ⟨rfl, rfl⟩
        · exact ⟨by simp [exL], [], ({ startPc := 0, endPc := 22, handlerPc := 25, catchType := 19 } : ExceptionTableEntry), [({ startPc := 0, endPc := 22, handlerPc := 29, catchType := 21 } : ExceptionTableEntry), ({ startPc := 0, endPc := 22, handlerPc := 33, catchType := 13 } : ExceptionTableEntry)], rfl, (fun y hy => nomatch hy), rfl, by decide, w398, i_astore 10 (i_pushI 1 (i_iret P)), s_astore hz rfl dL_balloon_25 (s_iconst hz rfl dL_balloon_27 (s_iretH hz hr rfl rfl dL_balloon_28)), fun ls q => ⟨isRf_ref q, hp⟩⟩
        · exact ⟨by simp [exL], [({ startPc := 0, endPc := 22, handlerPc := 25, catchType := 19 } : ExceptionTableEntry)], ({ startPc := 0, endPc := 22, handlerPc := 29, catchType := 21 } : ExceptionTableEntry), [({ startPc := 0, endPc := 22, handlerPc := 33, catchType := 13 } : ExceptionTableEntry)], rfl, (by
        intro y hy
        simp only [List.mem_cons, List.not_mem_nil, or_false] at hy
        rcases hy with rfl
        · exact ⟨by decide, "java/lang/IndexOutOfBoundsException", by simp [exL], w398, by decide⟩), rfl, by decide, w399, i_astore 10 (i_pushI 2 (i_iret P)), s_astore hz rfl dL_balloon_29 (s_iconst hz rfl dL_balloon_31 (s_iretH hz hr rfl rfl dL_balloon_32)), fun ls q => ⟨isRf_ref q, hp⟩⟩
        · exact ⟨by simp [exL], [({ startPc := 0, endPc := 22, handlerPc := 25, catchType := 19 } : ExceptionTableEntry), ({ startPc := 0, endPc := 22, handlerPc := 29, catchType := 21 } : ExceptionTableEntry)], ({ startPc := 0, endPc := 22, handlerPc := 33, catchType := 13 } : ExceptionTableEntry), [], rfl, (by
        intro y hy
        simp only [List.mem_cons, List.not_mem_nil, or_false] at hy
        rcases hy with rfl | rfl
        · exact ⟨by decide, "java/lang/IndexOutOfBoundsException", by simp [exL], w398, by decide⟩
        · exact ⟨by decide, "java/lang/IllegalArgumentException", by simp [exL], w399, by decide⟩), rfl, by decide, w228, i_astore 10 (i_pushI 3 (i_iret P)), s_astore hz rfl dL_balloon_33 (s_iconst hz rfl dL_balloon_35 (s_iretH hz hr rfl rfl dL_balloon_36)), fun ls q => ⟨isRf_ref q, hp⟩⟩)
      exact ⟨_, go_L_balloon_0 hz hr ho, hT⟩
    · exact hT.elim
  · unfold T_L_balloon at hT
    split at hT
    · exact ⟨Nat.le_of_ble_eq_true rfl, by simp [isC1_int, isC1_ref, isC1_null, isC1_rf]⟩
    · exact hT.elim
def wp_L_move_0 (P : Option Value → hp_T → Prop) (X : String → hp_T → Prop) : KT :=
  i_aload 0 (i_iload 1 (i_iload 2 (i_iload 3 (i_iload 4 (i_callV 4 10 T_X8_move X (i_pushI 0 (i_iret P)))))))
theorem wx_L_move_0 (P : Option Value → hp_T → Prop) (X : String → hp_T → Prop) (ls : List (Option Value)) (st : List Value) (h : hp_T) : wp_L_move_0 P X ls st h = (i_aload 0 (i_iload 1 (i_iload 2 (i_iload 3 (i_iload 4 (i_callV 4 10 T_X8_move X (i_pushI 0 (i_iret P)))))))) ls st h := rfl
set_option maxRecDepth 20000 in
theorem go_L_move_0 {z : zT} {P : Option Value → hp_T → Prop} {X : String → hp_T → Prop} (hz : Cx z cL_move 6 "PanelryLaw" "move" 8 6 34) (hr : RtH z (some .int) P [(0, 9, 12, 19), (0, 9, 16, 21), (0, 9, 20, 13)] 6 34) (ho : OutOK z X 6 34 6) : Go z 0 0 0 (wp_L_move_0 P X) := 
  s_aload_n hz rfl dL_move_0 (s_iload_n hz rfl dL_move_1 (s_iload_n hz rfl dL_move_2 (s_iload_n hz rfl dL_move_3 (s_iload hz dL_move_4 (s_callV hz ct_X8_move ⟨w708, w711, w29, by decide, by decide, by decide +kernel⟩ w709 w710 cls9 rfl rfl rfl rfl rfl rfl ho dL_move_6
    (s_goto hz (tgt := 24) rfl dL_move_9 (s_iconst hz rfl dL_move_24 (s_iretH hz hr rfl rfl dL_move_25))))))))

def T_L_move : PTH := fun av h P => match av with
  | [.ref c, .int v, .int w, .int x, .int y] => wp_L_move_0 P (Xo [("java/lang/IndexOutOfBoundsException", 1), ("java/lang/IllegalArgumentException", 2), ("java/lang/IllegalStateException", 3)] P) [some (.ref c), some (.int v), some (.int w), some (.int x), some (.int y), none] [] h
  | _ => False
theorem tx_L_move (c : Nat) (v : Int32) (w : Int32) (x : Int32) (y : Int32) (h : hp_T) (P : Option Value → hp_T → Prop) : T_L_move [.ref c, .int v, .int w, .int x, .int y] h P = wp_L_move_0 P (Xo [("java/lang/IndexOutOfBoundsException", 1), ("java/lang/IllegalArgumentException", 2), ("java/lang/IllegalStateException", 3)] P) [some (.ref c), some (.int v), some (.int w), some (.int x), some (.int y), none] [] h := rfl
set_option maxRecDepth 20000 in
theorem ch_L_move : CTH yL_move cL_move 6 (some .int) [(0, 9, 12, 19), (0, 9, 16, 21), (0, 9, 20, 13)] 8 6 34 T_L_move := by
  refine ctH_of (by decide) (fun z av h P hT hz hn hr => ?_) (fun av h P hT => ?_)
  · unfold T_L_move at hT
    split at hT
    · have ho : OutOK z (Xo [("java/lang/IndexOutOfBoundsException", 1), ("java/lang/IllegalArgumentException", 2), ("java/lang/IllegalStateException", 3)] P) 6 34 6 := out_h hz hn hr (fun E h' ⟨t, ht, hp⟩ => by
        simp only [List.mem_cons, List.not_mem_nil, or_false, Prod.mk.injEq] at ht
        rcases ht with ⟨rfl, rfl⟩ | ⟨rfl, rfl⟩ | ⟨rfl, rfl⟩
        · exact ⟨by simp [exL], [], ({ startPc := 0, endPc := 9, handlerPc := 12, catchType := 19 } : ExceptionTableEntry), [({ startPc := 0, endPc := 9, handlerPc := 16, catchType := 21 } : ExceptionTableEntry), ({ startPc := 0, endPc := 9, handlerPc := 20, catchType := 13 } : ExceptionTableEntry)], rfl, (fun y hy => nomatch hy), rfl, by decide, w398, i_astore 5 (i_pushI 1 (i_iret P)), s_astore hz rfl dL_move_12 (s_iconst hz rfl dL_move_14 (s_iretH hz hr rfl rfl dL_move_15)), fun ls q => ⟨isRf_ref q, hp⟩⟩
        · exact ⟨by simp [exL], [({ startPc := 0, endPc := 9, handlerPc := 12, catchType := 19 } : ExceptionTableEntry)], ({ startPc := 0, endPc := 9, handlerPc := 16, catchType := 21 } : ExceptionTableEntry), [({ startPc := 0, endPc := 9, handlerPc := 20, catchType := 13 } : ExceptionTableEntry)], rfl, (by
        intro y hy
        simp only [List.mem_cons, List.not_mem_nil, or_false] at hy
        rcases hy with rfl
        · exact ⟨by decide, "java/lang/IndexOutOfBoundsException", by simp [exL], w398, by decide⟩), rfl, by decide, w399, i_astore 5 (i_pushI 2 (i_iret P)), s_astore hz rfl dL_move_16 (s_iconst hz rfl dL_move_18 (s_iretH hz hr rfl rfl dL_move_19)), fun ls q => ⟨isRf_ref q, hp⟩⟩
        · exact ⟨by simp [exL], [({ startPc := 0, endPc := 9, handlerPc := 12, catchType := 19 } : ExceptionTableEntry), ({ startPc := 0, endPc := 9, handlerPc := 16, catchType := 21 } : ExceptionTableEntry)], ({ startPc := 0, endPc := 9, handlerPc := 20, catchType := 13 } : ExceptionTableEntry), [], rfl, (by
        intro y hy
        simp only [List.mem_cons, List.not_mem_nil, or_false] at hy
        rcases hy with rfl | rfl
        · exact ⟨by decide, "java/lang/IndexOutOfBoundsException", by simp [exL], w398, by decide⟩
        · exact ⟨by decide, "java/lang/IllegalArgumentException", by simp [exL], w399, by decide⟩), rfl, by decide, w228, i_astore 5 (i_pushI 3 (i_iret P)), s_astore hz rfl dL_move_20 (s_iconst hz rfl dL_move_22 (s_iretH hz hr rfl rfl dL_move_23)), fun ls q => ⟨isRf_ref q, hp⟩⟩)
      exact ⟨_, go_L_move_0 hz hr ho, hT⟩
    · exact hT.elim
  · unfold T_L_move at hT
    split at hT
    · exact ⟨Nat.le_of_ble_eq_true rfl, by simp [isC1_int, isC1_ref, isC1_null, isC1_rf]⟩
    · exact hT.elim
def wp_L_faults_0 (P : Option Value → hp_T → Prop) (X : String → hp_T → Prop) : KT :=
  i_aload 3 (i_pushI 0 (i_aload 0 (i_iload 1 (i_iload 2 (i_callV 2 10 T_X8_faults X (i_i2l (i_last 180 (i_pushI 0 (i_iret P)))))))))
theorem wx_L_faults_0 (P : Option Value → hp_T → Prop) (X : String → hp_T → Prop) (ls : List (Option Value)) (st : List Value) (h : hp_T) : wp_L_faults_0 P X ls st h = (i_aload 3 (i_pushI 0 (i_aload 0 (i_iload 1 (i_iload 2 (i_callV 2 10 T_X8_faults X (i_i2l (i_last 180 (i_pushI 0 (i_iret P)))))))))) ls st h := rfl
set_option maxRecDepth 20000 in
theorem go_L_faults_0 {z : zT} {P : Option Value → hp_T → Prop} {X : String → hp_T → Prop} (hz : Cx z cL_faults 5 "PanelryLaw" "faults" 8 27 114) (hr : RtH z (some .int) P [(0, 10, 13, 19)] 27 114) (ho : OutOK z X 27 114 5) : Go z 0 0 0 (wp_L_faults_0 P X) := 
  s_aload_n hz rfl dL_faults_0 (s_iconst hz rfl dL_faults_1 (s_aload_n hz rfl dL_faults_2 (s_iload_n hz rfl dL_faults_3 (s_iload_n hz rfl dL_faults_4 (s_callV hz ct_X8_faults ⟨w719, w722, w29, by decide, by decide, by decide +kernel⟩ w720 w721 cls9 rfl rfl rfl rfl rfl rfl ho dL_faults_5
    (s_i2l hz dL_faults_8 (s_last hz rfl rfl rfl rfl dL_faults_9 (s_goto hz (tgt := 17) rfl dL_faults_10 (s_iconst hz rfl dL_faults_17 (s_iretH hz hr rfl rfl dL_faults_18))))))))))

def T_L_faults : PTH := fun av h P => match av with
  | [.ref c, .int v, .int w, .ref o] => wp_L_faults_0 P (Xo [("java/lang/IndexOutOfBoundsException", 1)] P) [some (.ref c), some (.int v), some (.int w), some (.ref o), none] [] h
  | _ => False
theorem tx_L_faults (c : Nat) (v : Int32) (w : Int32) (o : Nat) (h : hp_T) (P : Option Value → hp_T → Prop) : T_L_faults [.ref c, .int v, .int w, .ref o] h P = wp_L_faults_0 P (Xo [("java/lang/IndexOutOfBoundsException", 1)] P) [some (.ref c), some (.int v), some (.int w), some (.ref o), none] [] h := rfl
set_option maxRecDepth 20000 in
theorem ch_L_faults : CTH yL_faults cL_faults 5 (some .int) [(0, 10, 13, 19)] 8 27 114 T_L_faults := by
  refine ctH_of (by decide) (fun z av h P hT hz hn hr => ?_) (fun av h P hT => ?_)
  · unfold T_L_faults at hT
    split at hT
    · have ho : OutOK z (Xo [("java/lang/IndexOutOfBoundsException", 1)] P) 27 114 5 := out_h hz hn hr (fun E h' ⟨t, ht, hp⟩ => by
        simp only [List.mem_cons, List.not_mem_nil, or_false, Prod.mk.injEq] at ht
        obtain ⟨rfl, rfl⟩ := ht
        exact ⟨by simp [exL], [], ({ startPc := 0, endPc := 10, handlerPc := 13, catchType := 19 } : ExceptionTableEntry), [], rfl, (fun y hy => nomatch hy), rfl, by decide, w398, i_astore 4 (i_pushI 1 (i_iret P)), s_astore hz rfl dL_faults_13 (s_iconst hz rfl dL_faults_15 (s_iretH hz hr rfl rfl dL_faults_16)), fun ls q => ⟨isRf_ref q, hp⟩⟩)
      exact ⟨_, go_L_faults_0 hz hr ho, hT⟩
    · exact hT.elim
  · unfold T_L_faults at hT
    split at hT
    · exact ⟨Nat.le_of_ble_eq_true rfl, by simp [isC1_int, isC1_ref, isC1_null, isC1_rf]⟩
    · exact hT.elim
def wp_L_tell_0 (P : Option Value → hp_T → Prop) (X : String → hp_T → Prop) : KT :=
  i_aload 5 (i_pushI 0 (i_aload 0 (i_iload 1 (i_iload 2 (i_iload 3 (i_iload 4 (i_callV 4 10 T_X8_tell X (i_i2l (i_last 180 (i_pushI 0 (i_iret P)))))))))))
theorem wx_L_tell_0 (P : Option Value → hp_T → Prop) (X : String → hp_T → Prop) (ls : List (Option Value)) (st : List Value) (h : hp_T) : wp_L_tell_0 P X ls st h = (i_aload 5 (i_pushI 0 (i_aload 0 (i_iload 1 (i_iload 2 (i_iload 3 (i_iload 4 (i_callV 4 10 T_X8_tell X (i_i2l (i_last 180 (i_pushI 0 (i_iret P)))))))))))) ls st h := rfl
set_option maxRecDepth 20000 in
theorem go_L_tell_0 {z : zT} {P : Option Value → hp_T → Prop} {X : String → hp_T → Prop} (hz : Cx z cL_tell 7 "PanelryLaw" "tell" 9 5 123) (hr : RtH z (some .int) P [(0, 14, 17, 19), (0, 14, 21, 21), (0, 14, 25, 13)] 5 123) (ho : OutOK z X 5 123 9) : Go z 0 0 0 (wp_L_tell_0 P X) := 
  s_aload hz dL_tell_0 (s_iconst hz rfl dL_tell_2 (s_aload_n hz rfl dL_tell_3 (s_iload_n hz rfl dL_tell_4 (s_iload_n hz rfl dL_tell_5 (s_iload_n hz rfl dL_tell_6 (s_iload hz dL_tell_7
    (s_callV hz ct_X8_tell ⟨w817, w820, w29, by decide, by decide, by decide +kernel⟩ w818 w819 cls9 rfl rfl rfl rfl rfl rfl ho dL_tell_9 (s_i2l hz dL_tell_12 (s_last hz rfl rfl rfl rfl dL_tell_13
    (s_goto hz (tgt := 29) rfl dL_tell_14 (s_iconst hz rfl dL_tell_29 (s_iretH hz hr rfl rfl dL_tell_30))))))))))))

def T_L_tell : PTH := fun av h P => match av with
  | [.ref c, .int f, .int t, .int v, .int r, .ref o] => wp_L_tell_0 P (Xo [("java/lang/IndexOutOfBoundsException", 1), ("java/lang/IllegalArgumentException", 2), ("java/lang/IllegalStateException", 3)] P) [some (.ref c), some (.int f), some (.int t), some (.int v), some (.int r), some (.ref o), none] [] h
  | _ => False
theorem tx_L_tell (c : Nat) (f : Int32) (t : Int32) (v : Int32) (r : Int32) (o : Nat) (h : hp_T) (P : Option Value → hp_T → Prop) : T_L_tell [.ref c, .int f, .int t, .int v, .int r, .ref o] h P = wp_L_tell_0 P (Xo [("java/lang/IndexOutOfBoundsException", 1), ("java/lang/IllegalArgumentException", 2), ("java/lang/IllegalStateException", 3)] P) [some (.ref c), some (.int f), some (.int t), some (.int v), some (.int r), some (.ref o), none] [] h := rfl
set_option maxRecDepth 20000 in
theorem ch_L_tell : CTH yL_tell cL_tell 7 (some .int) [(0, 14, 17, 19), (0, 14, 21, 21), (0, 14, 25, 13)] 9 5 123 T_L_tell := by
  refine ctH_of (by decide) (fun z av h P hT hz hn hr => ?_) (fun av h P hT => ?_)
  · unfold T_L_tell at hT
    split at hT
    · have ho : OutOK z (Xo [("java/lang/IndexOutOfBoundsException", 1), ("java/lang/IllegalArgumentException", 2), ("java/lang/IllegalStateException", 3)] P) 5 123 9 := out_h hz hn hr (fun E h' ⟨t, ht, hp⟩ => by
        simp only [List.mem_cons, List.not_mem_nil, or_false, Prod.mk.injEq] at ht
        rcases ht with ⟨rfl, rfl⟩ | ⟨rfl, rfl⟩ | ⟨rfl, rfl⟩
        · exact ⟨by simp [exL], [], ({ startPc := 0, endPc := 14, handlerPc := 17, catchType := 19 } : ExceptionTableEntry), [({ startPc := 0, endPc := 14, handlerPc := 21, catchType := 21 } : ExceptionTableEntry), ({ startPc := 0, endPc := 14, handlerPc := 25, catchType := 13 } : ExceptionTableEntry)], rfl, (fun y hy => nomatch hy), rfl, by decide, w398, i_astore 6 (i_pushI 1 (i_iret P)), s_astore hz rfl dL_tell_17 (s_iconst hz rfl dL_tell_19 (s_iretH hz hr rfl rfl dL_tell_20)), fun ls q => ⟨isRf_ref q, hp⟩⟩
        · exact ⟨by simp [exL], [({ startPc := 0, endPc := 14, handlerPc := 17, catchType := 19 } : ExceptionTableEntry)], ({ startPc := 0, endPc := 14, handlerPc := 21, catchType := 21 } : ExceptionTableEntry), [({ startPc := 0, endPc := 14, handlerPc := 25, catchType := 13 } : ExceptionTableEntry)], rfl, (by
        intro y hy
        simp only [List.mem_cons, List.not_mem_nil, or_false] at hy
        rcases hy with rfl
        · exact ⟨by decide, "java/lang/IndexOutOfBoundsException", by simp [exL], w398, by decide⟩), rfl, by decide, w399, i_astore 6 (i_pushI 2 (i_iret P)), s_astore hz rfl dL_tell_21 (s_iconst hz rfl dL_tell_23 (s_iretH hz hr rfl rfl dL_tell_24)), fun ls q => ⟨isRf_ref q, hp⟩⟩
        · exact ⟨by simp [exL], [({ startPc := 0, endPc := 14, handlerPc := 17, catchType := 19 } : ExceptionTableEntry), ({ startPc := 0, endPc := 14, handlerPc := 21, catchType := 21 } : ExceptionTableEntry)], ({ startPc := 0, endPc := 14, handlerPc := 25, catchType := 13 } : ExceptionTableEntry), [], rfl, (by
        intro y hy
        simp only [List.mem_cons, List.not_mem_nil, or_false] at hy
        rcases hy with rfl | rfl
        · exact ⟨by decide, "java/lang/IndexOutOfBoundsException", by simp [exL], w398, by decide⟩
        · exact ⟨by decide, "java/lang/IllegalArgumentException", by simp [exL], w399, by decide⟩), rfl, by decide, w228, i_astore 6 (i_pushI 3 (i_iret P)), s_astore hz rfl dL_tell_25 (s_iconst hz rfl dL_tell_27 (s_iretH hz hr rfl rfl dL_tell_28)), fun ls q => ⟨isRf_ref q, hp⟩⟩)
      exact ⟨_, go_L_tell_0 hz hr ho, hT⟩
    · exact hT.elim
  · unfold T_L_tell at hT
    split at hT
    · exact ⟨Nat.le_of_ble_eq_true rfl, by simp [isC1_int, isC1_ref, isC1_null, isC1_rf]⟩
    · exact hT.elim
def wp_L_known_0 (P : Option Value → hp_T → Prop) (X : String → hp_T → Prop) : KT :=
  i_aload 4 (i_pushI 0 (i_aload 0 (i_iload 1 (i_iload 2 (i_iload 3 (i_callV 3 10 T_X8_known X (i_i2l (i_last 180 (i_pushI 0 (i_iret P))))))))))
theorem wx_L_known_0 (P : Option Value → hp_T → Prop) (X : String → hp_T → Prop) (ls : List (Option Value)) (st : List Value) (h : hp_T) : wp_L_known_0 P X ls st h = (i_aload 4 (i_pushI 0 (i_aload 0 (i_iload 1 (i_iload 2 (i_iload 3 (i_callV 3 10 T_X8_known X (i_i2l (i_last 180 (i_pushI 0 (i_iret P))))))))))) ls st h := rfl
set_option maxRecDepth 20000 in
theorem go_L_known_0 {z : zT} {P : Option Value → hp_T → Prop} {X : String → hp_T → Prop} (hz : Cx z cL_known 6 "PanelryLaw" "known" 8 3 18) (hr : RtH z (some .int) P [(0, 12, 15, 19), (0, 12, 19, 21)] 3 18) (ho : OutOK z X 3 18 7) : Go z 0 0 0 (wp_L_known_0 P X) := 
  s_aload hz dL_known_0 (s_iconst hz rfl dL_known_2 (s_aload_n hz rfl dL_known_3 (s_iload_n hz rfl dL_known_4 (s_iload_n hz rfl dL_known_5 (s_iload_n hz rfl dL_known_6 (s_callV hz ct_X8_known ⟨w853, w856, w29, by decide, by decide, by decide +kernel⟩ w854 w855 cls9 rfl rfl rfl rfl rfl rfl ho dL_known_7
    (s_i2l hz dL_known_10 (s_last hz rfl rfl rfl rfl dL_known_11 (s_goto hz (tgt := 23) rfl dL_known_12 (s_iconst hz rfl dL_known_23 (s_iretH hz hr rfl rfl dL_known_24)))))))))))

def T_L_known : PTH := fun av h P => match av with
  | [.ref c, .int f, .int t, .int w, .ref o] => wp_L_known_0 P (Xo [("java/lang/IndexOutOfBoundsException", 1), ("java/lang/IllegalArgumentException", 2)] P) [some (.ref c), some (.int f), some (.int t), some (.int w), some (.ref o), none] [] h
  | _ => False
theorem tx_L_known (c : Nat) (f : Int32) (t : Int32) (w : Int32) (o : Nat) (h : hp_T) (P : Option Value → hp_T → Prop) : T_L_known [.ref c, .int f, .int t, .int w, .ref o] h P = wp_L_known_0 P (Xo [("java/lang/IndexOutOfBoundsException", 1), ("java/lang/IllegalArgumentException", 2)] P) [some (.ref c), some (.int f), some (.int t), some (.int w), some (.ref o), none] [] h := rfl
set_option maxRecDepth 20000 in
theorem ch_L_known : CTH yL_known cL_known 6 (some .int) [(0, 12, 15, 19), (0, 12, 19, 21)] 8 3 18 T_L_known := by
  refine ctH_of (by decide) (fun z av h P hT hz hn hr => ?_) (fun av h P hT => ?_)
  · unfold T_L_known at hT
    split at hT
    · have ho : OutOK z (Xo [("java/lang/IndexOutOfBoundsException", 1), ("java/lang/IllegalArgumentException", 2)] P) 3 18 7 := out_h hz hn hr (fun E h' ⟨t, ht, hp⟩ => by
        simp only [List.mem_cons, List.not_mem_nil, or_false, Prod.mk.injEq] at ht
        rcases ht with ⟨rfl, rfl⟩ | ⟨rfl, rfl⟩
        · exact ⟨by simp [exL], [], ({ startPc := 0, endPc := 12, handlerPc := 15, catchType := 19 } : ExceptionTableEntry), [({ startPc := 0, endPc := 12, handlerPc := 19, catchType := 21 } : ExceptionTableEntry)], rfl, (fun y hy => nomatch hy), rfl, by decide, w398, i_astore 5 (i_pushI 1 (i_iret P)), s_astore hz rfl dL_known_15 (s_iconst hz rfl dL_known_17 (s_iretH hz hr rfl rfl dL_known_18)), fun ls q => ⟨isRf_ref q, hp⟩⟩
        · exact ⟨by simp [exL], [({ startPc := 0, endPc := 12, handlerPc := 15, catchType := 19 } : ExceptionTableEntry)], ({ startPc := 0, endPc := 12, handlerPc := 19, catchType := 21 } : ExceptionTableEntry), [], rfl, (by
        intro y hy
        simp only [List.mem_cons, List.not_mem_nil, or_false] at hy
        rcases hy with rfl
        · exact ⟨by decide, "java/lang/IndexOutOfBoundsException", by simp [exL], w398, by decide⟩), rfl, by decide, w399, i_astore 5 (i_pushI 2 (i_iret P)), s_astore hz rfl dL_known_19 (s_iconst hz rfl dL_known_21 (s_iretH hz hr rfl rfl dL_known_22)), fun ls q => ⟨isRf_ref q, hp⟩⟩)
      exact ⟨_, go_L_known_0 hz hr ho, hT⟩
    · exact hT.elim
  · unfold T_L_known at hT
    split at hT
    · exact ⟨Nat.le_of_ble_eq_true rfl, by simp [isC1_int, isC1_ref, isC1_null, isC1_rf]⟩
    · exact hT.elim
def wp_L_contradictions_0 (P : Option Value → hp_T → Prop) (X : String → hp_T → Prop) : KT :=
  i_aload 2 (i_pushI 0 (i_aload 0 (i_iload 1 (i_callV 1 10 T_X8_contradictions X (i_i2l (i_last 180 (i_pushI 0 (i_iret P))))))))
theorem wx_L_contradictions_0 (P : Option Value → hp_T → Prop) (X : String → hp_T → Prop) (ls : List (Option Value)) (st : List Value) (h : hp_T) : wp_L_contradictions_0 P X ls st h = (i_aload 2 (i_pushI 0 (i_aload 0 (i_iload 1 (i_callV 1 10 T_X8_contradictions X (i_i2l (i_last 180 (i_pushI 0 (i_iret P))))))))) ls st h := rfl
set_option maxRecDepth 20000 in
theorem go_L_contradictions_0 {z : zT} {P : Option Value → hp_T → Prop} {X : String → hp_T → Prop} (hz : Cx z cL_contradictions 4 "PanelryLaw" "contradictions" 8 1 6) (hr : RtH z (some .int) P [(0, 9, 12, 19)] 1 6) (ho : OutOK z X 1 6 4) : Go z 0 0 0 (wp_L_contradictions_0 P X) := 
  s_aload_n hz rfl dL_contradictions_0 (s_iconst hz rfl dL_contradictions_1 (s_aload_n hz rfl dL_contradictions_2 (s_iload_n hz rfl dL_contradictions_3 (s_callV hz ct_X8_contradictions ⟨w868, w871, w29, by decide, by decide, by decide +kernel⟩ w869 w870 cls9 rfl rfl rfl rfl rfl rfl ho dL_contradictions_4
    (s_i2l hz dL_contradictions_7 (s_last hz rfl rfl rfl rfl dL_contradictions_8 (s_goto hz (tgt := 15) rfl dL_contradictions_9 (s_iconst hz rfl dL_contradictions_15 (s_iretH hz hr rfl rfl dL_contradictions_16)))))))))

def T_L_contradictions : PTH := fun av h P => match av with
  | [.ref c, .int f, .ref o] => wp_L_contradictions_0 P (Xo [("java/lang/IndexOutOfBoundsException", 1)] P) [some (.ref c), some (.int f), some (.ref o), none] [] h
  | _ => False
theorem tx_L_contradictions (c : Nat) (f : Int32) (o : Nat) (h : hp_T) (P : Option Value → hp_T → Prop) : T_L_contradictions [.ref c, .int f, .ref o] h P = wp_L_contradictions_0 P (Xo [("java/lang/IndexOutOfBoundsException", 1)] P) [some (.ref c), some (.int f), some (.ref o), none] [] h := rfl
set_option maxRecDepth 20000 in
theorem ch_L_contradictions : CTH yL_contradictions cL_contradictions 4 (some .int) [(0, 9, 12, 19)] 8 1 6 T_L_contradictions := by
  refine ctH_of (by decide) (fun z av h P hT hz hn hr => ?_) (fun av h P hT => ?_)
  · unfold T_L_contradictions at hT
    split at hT
    · have ho : OutOK z (Xo [("java/lang/IndexOutOfBoundsException", 1)] P) 1 6 4 := out_h hz hn hr (fun E h' ⟨t, ht, hp⟩ => by
        simp only [List.mem_cons, List.not_mem_nil, or_false, Prod.mk.injEq] at ht
        obtain ⟨rfl, rfl⟩ := ht
        exact ⟨by simp [exL], [], ({ startPc := 0, endPc := 9, handlerPc := 12, catchType := 19 } : ExceptionTableEntry), [], rfl, (fun y hy => nomatch hy), rfl, by decide, w398, i_astore 3 (i_pushI 1 (i_iret P)), s_astore_n hz rfl rfl dL_contradictions_12 (s_iconst hz rfl dL_contradictions_13 (s_iretH hz hr rfl rfl dL_contradictions_14)), fun ls q => ⟨isRf_ref q, hp⟩⟩)
      exact ⟨_, go_L_contradictions_0 hz hr ho, hT⟩
    · exact hT.elim
  · unfold T_L_contradictions at hT
    split at hT
    · exact ⟨Nat.le_of_ble_eq_true rfl, by simp [isC1_int, isC1_ref, isC1_null, isC1_rf]⟩
    · exact hT.elim
def wp_L_workers_0 (P : Option Value → hp_T → Prop) (X : String → hp_T → Prop) : KT :=
  i_aload 2 (i_pushI 0 (i_aload 0 (i_iload 1 (i_callV 1 10 TC_X8_workers X (i_i2l (i_last 180 (i_pushI 0 (i_iret P))))))))
theorem wx_L_workers_0 (P : Option Value → hp_T → Prop) (X : String → hp_T → Prop) (ls : List (Option Value)) (st : List Value) (h : hp_T) : wp_L_workers_0 P X ls st h = (i_aload 2 (i_pushI 0 (i_aload 0 (i_iload 1 (i_callV 1 10 TC_X8_workers X (i_i2l (i_last 180 (i_pushI 0 (i_iret P))))))))) ls st h := rfl
set_option maxRecDepth 20000 in
theorem go_L_workers_0 {z : zT} {P : Option Value → hp_T → Prop} {X : String → hp_T → Prop} (hz : Cx z cL_workers 4 "PanelryLaw" "workers" 8 1 6) (hr : RtH z (some .int) P [(0, 9, 12, 21)] 1 6) (ho : OutOK z X 1 6 4) : Go z 0 0 0 (wp_L_workers_0 P X) := 
  s_aload_n hz rfl dL_workers_0 (s_iconst hz rfl dL_workers_1 (s_aload_n hz rfl dL_workers_2 (s_iload_n hz rfl dL_workers_3 (s_callV hz cc_X8_workers ⟨w879, w882, w29, by decide, by decide, by decide +kernel⟩ w880 w881 cls9 rfl rfl rfl rfl rfl rfl ho dL_workers_4
    (s_i2l hz dL_workers_7 (s_last hz rfl rfl rfl rfl dL_workers_8 (s_goto hz (tgt := 15) rfl dL_workers_9 (s_iconst hz rfl dL_workers_15 (s_iretH hz hr rfl rfl dL_workers_16)))))))))

def T_L_workers : PTH := fun av h P => match av with
  | [.ref c, .int v, .ref o] => wp_L_workers_0 P (Xo [("java/lang/IllegalArgumentException", 1)] P) [some (.ref c), some (.int v), some (.ref o), none] [] h
  | _ => False
theorem tx_L_workers (c : Nat) (v : Int32) (o : Nat) (h : hp_T) (P : Option Value → hp_T → Prop) : T_L_workers [.ref c, .int v, .ref o] h P = wp_L_workers_0 P (Xo [("java/lang/IllegalArgumentException", 1)] P) [some (.ref c), some (.int v), some (.ref o), none] [] h := rfl
set_option maxRecDepth 20000 in
theorem ch_L_workers : CTH yL_workers cL_workers 4 (some .int) [(0, 9, 12, 21)] 8 1 6 T_L_workers := by
  refine ctH_of (by decide) (fun z av h P hT hz hn hr => ?_) (fun av h P hT => ?_)
  · unfold T_L_workers at hT
    split at hT
    · have ho : OutOK z (Xo [("java/lang/IllegalArgumentException", 1)] P) 1 6 4 := out_h hz hn hr (fun E h' ⟨t, ht, hp⟩ => by
        simp only [List.mem_cons, List.not_mem_nil, or_false, Prod.mk.injEq] at ht
        obtain ⟨rfl, rfl⟩ := ht
        exact ⟨by simp [exL], [], ({ startPc := 0, endPc := 9, handlerPc := 12, catchType := 21 } : ExceptionTableEntry), [], rfl, (fun y hy => nomatch hy), rfl, by decide, w399, i_astore 3 (i_pushI 1 (i_iret P)), s_astore_n hz rfl rfl dL_workers_12 (s_iconst hz rfl dL_workers_13 (s_iretH hz hr rfl rfl dL_workers_14)), fun ls q => ⟨isRf_ref q, hp⟩⟩)
      exact ⟨_, go_L_workers_0 hz hr ho, hT⟩
    · exact hT.elim
  · unfold T_L_workers at hT
    split at hT
    · exact ⟨Nat.le_of_ble_eq_true rfl, by simp [isC1_int, isC1_ref, isC1_null, isC1_rf]⟩
    · exact hT.elim
def wp_L_pass_0 (P : Option Value → hp_T → Prop) (X : String → hp_T → Prop) : KT :=
  i_aload 2 (i_pushI 0 (i_aload 0 (i_iload 1 (i_callV 1 10 T_X8_pass X (i_i2l (i_last 180 (i_pushI 0 (i_iret P))))))))
theorem wx_L_pass_0 (P : Option Value → hp_T → Prop) (X : String → hp_T → Prop) (ls : List (Option Value)) (st : List Value) (h : hp_T) : wp_L_pass_0 P X ls st h = (i_aload 2 (i_pushI 0 (i_aload 0 (i_iload 1 (i_callV 1 10 T_X8_pass X (i_i2l (i_last 180 (i_pushI 0 (i_iret P))))))))) ls st h := rfl
set_option maxRecDepth 20000 in
theorem go_L_pass_0 {z : zT} {P : Option Value → hp_T → Prop} {X : String → hp_T → Prop} (hz : Cx z cL_pass 4 "PanelryLaw" "pass" 8 2 12) (hr : RtH z (some .int) P [(0, 9, 12, 21), (0, 9, 15, 13)] 2 12) (ho : OutOK z X 2 12 4) : Go z 0 0 0 (wp_L_pass_0 P X) := 
  s_aload_n hz rfl dL_pass_0 (s_iconst hz rfl dL_pass_1 (s_aload_n hz rfl dL_pass_2 (s_iload_n hz rfl dL_pass_3 (s_callV hz ct_X8_pass ⟨w886, w889, w29, by decide, by decide, by decide +kernel⟩ w887 w888 cls9 rfl rfl rfl rfl rfl rfl ho dL_pass_4
    (s_i2l hz dL_pass_7 (s_last hz rfl rfl rfl rfl dL_pass_8 (s_goto hz (tgt := 18) rfl dL_pass_9 (s_iconst hz rfl dL_pass_18 (s_iretH hz hr rfl rfl dL_pass_19)))))))))

def T_L_pass : PTH := fun av h P => match av with
  | [.ref c, .int w, .ref o] => wp_L_pass_0 P (Xo [("java/lang/IllegalArgumentException", 1), ("java/lang/IllegalStateException", 2)] P) [some (.ref c), some (.int w), some (.ref o), none] [] h
  | _ => False
theorem tx_L_pass (c : Nat) (w : Int32) (o : Nat) (h : hp_T) (P : Option Value → hp_T → Prop) : T_L_pass [.ref c, .int w, .ref o] h P = wp_L_pass_0 P (Xo [("java/lang/IllegalArgumentException", 1), ("java/lang/IllegalStateException", 2)] P) [some (.ref c), some (.int w), some (.ref o), none] [] h := rfl
set_option maxRecDepth 20000 in
theorem ch_L_pass : CTH yL_pass cL_pass 4 (some .int) [(0, 9, 12, 21), (0, 9, 15, 13)] 8 2 12 T_L_pass := by
  refine ctH_of (by decide) (fun z av h P hT hz hn hr => ?_) (fun av h P hT => ?_)
  · unfold T_L_pass at hT
    split at hT
    · have ho : OutOK z (Xo [("java/lang/IllegalArgumentException", 1), ("java/lang/IllegalStateException", 2)] P) 2 12 4 := out_h hz hn hr (fun E h' ⟨t, ht, hp⟩ => by
        simp only [List.mem_cons, List.not_mem_nil, or_false, Prod.mk.injEq] at ht
        rcases ht with ⟨rfl, rfl⟩ | ⟨rfl, rfl⟩
        · exact ⟨by simp [exL], [], ({ startPc := 0, endPc := 9, handlerPc := 12, catchType := 21 } : ExceptionTableEntry), [({ startPc := 0, endPc := 9, handlerPc := 15, catchType := 13 } : ExceptionTableEntry)], rfl, (fun y hy => nomatch hy), rfl, by decide, w399, i_astore 3 (i_pushI 1 (i_iret P)), s_astore_n hz rfl rfl dL_pass_12 (s_iconst hz rfl dL_pass_13 (s_iretH hz hr rfl rfl dL_pass_14)), fun ls q => ⟨isRf_ref q, hp⟩⟩
        · exact ⟨by simp [exL], [({ startPc := 0, endPc := 9, handlerPc := 12, catchType := 21 } : ExceptionTableEntry)], ({ startPc := 0, endPc := 9, handlerPc := 15, catchType := 13 } : ExceptionTableEntry), [], rfl, (by
        intro y hy
        simp only [List.mem_cons, List.not_mem_nil, or_false] at hy
        rcases hy with rfl
        · exact ⟨by decide, "java/lang/IllegalArgumentException", by simp [exL], w399, by decide⟩), rfl, by decide, w228, i_astore 3 (i_pushI 2 (i_iret P)), s_astore_n hz rfl rfl dL_pass_15 (s_iconst hz rfl dL_pass_16 (s_iretH hz hr rfl rfl dL_pass_17)), fun ls q => ⟨isRf_ref q, hp⟩⟩)
      exact ⟨_, go_L_pass_0 hz hr ho, hT⟩
    · exact hT.elim
  · unfold T_L_pass at hT
    split at hT
    · exact ⟨Nat.le_of_ble_eq_true rfl, by simp [isC1_int, isC1_ref, isC1_null, isC1_rf]⟩
    · exact hT.elim
def wp_L_stage_0 (P : Option Value → hp_T → Prop) (X : String → hp_T → Prop) : KT :=
  i_aload 2 (i_pushI 0 (i_aload 0 (i_iload 1 (i_callV 1 10 TC_X8_stage X (i_i2l (i_last 180 (i_pushI 0 (i_iret P))))))))
theorem wx_L_stage_0 (P : Option Value → hp_T → Prop) (X : String → hp_T → Prop) (ls : List (Option Value)) (st : List Value) (h : hp_T) : wp_L_stage_0 P X ls st h = (i_aload 2 (i_pushI 0 (i_aload 0 (i_iload 1 (i_callV 1 10 TC_X8_stage X (i_i2l (i_last 180 (i_pushI 0 (i_iret P))))))))) ls st h := rfl
set_option maxRecDepth 20000 in
theorem go_L_stage_0 {z : zT} {P : Option Value → hp_T → Prop} {X : String → hp_T → Prop} (hz : Cx z cL_stage 4 "PanelryLaw" "stage" 8 1 6) (hr : RtH z (some .int) P [(0, 9, 12, 19)] 1 6) (ho : OutOK z X 1 6 4) : Go z 0 0 0 (wp_L_stage_0 P X) := 
  s_aload_n hz rfl dL_stage_0 (s_iconst hz rfl dL_stage_1 (s_aload_n hz rfl dL_stage_2 (s_iload_n hz rfl dL_stage_3 (s_callV hz cc_X8_stage ⟨w898, w901, w29, by decide, by decide, by decide +kernel⟩ w899 w900 cls9 rfl rfl rfl rfl rfl rfl ho dL_stage_4
    (s_i2l hz dL_stage_7 (s_last hz rfl rfl rfl rfl dL_stage_8 (s_goto hz (tgt := 15) rfl dL_stage_9 (s_iconst hz rfl dL_stage_15 (s_iretH hz hr rfl rfl dL_stage_16)))))))))

def T_L_stage : PTH := fun av h P => match av with
  | [.ref c, .int v, .ref o] => wp_L_stage_0 P (Xo [("java/lang/IndexOutOfBoundsException", 1)] P) [some (.ref c), some (.int v), some (.ref o), none] [] h
  | _ => False
theorem tx_L_stage (c : Nat) (v : Int32) (o : Nat) (h : hp_T) (P : Option Value → hp_T → Prop) : T_L_stage [.ref c, .int v, .ref o] h P = wp_L_stage_0 P (Xo [("java/lang/IndexOutOfBoundsException", 1)] P) [some (.ref c), some (.int v), some (.ref o), none] [] h := rfl
set_option maxRecDepth 20000 in
theorem ch_L_stage : CTH yL_stage cL_stage 4 (some .int) [(0, 9, 12, 19)] 8 1 6 T_L_stage := by
  refine ctH_of (by decide) (fun z av h P hT hz hn hr => ?_) (fun av h P hT => ?_)
  · unfold T_L_stage at hT
    split at hT
    · have ho : OutOK z (Xo [("java/lang/IndexOutOfBoundsException", 1)] P) 1 6 4 := out_h hz hn hr (fun E h' ⟨t, ht, hp⟩ => by
        simp only [List.mem_cons, List.not_mem_nil, or_false, Prod.mk.injEq] at ht
        obtain ⟨rfl, rfl⟩ := ht
        exact ⟨by simp [exL], [], ({ startPc := 0, endPc := 9, handlerPc := 12, catchType := 19 } : ExceptionTableEntry), [], rfl, (fun y hy => nomatch hy), rfl, by decide, w398, i_astore 3 (i_pushI 1 (i_iret P)), s_astore_n hz rfl rfl dL_stage_12 (s_iconst hz rfl dL_stage_13 (s_iretH hz hr rfl rfl dL_stage_14)), fun ls q => ⟨isRf_ref q, hp⟩⟩)
      exact ⟨_, go_L_stage_0 hz hr ho, hT⟩
    · exact hT.elim
  · unfold T_L_stage at hT
    split at hT
    · exact ⟨Nat.le_of_ble_eq_true rfl, by simp [isC1_int, isC1_ref, isC1_null, isC1_rf]⟩
    · exact hT.elim
def wp_L_press_0 (P : Option Value → hp_T → Prop) (X : String → hp_T → Prop) : KT :=
  i_aload 2 (i_pushI 0 (i_aload 0 (i_iload 1 (i_callV 1 10 T_X8_press X (i_i2l (i_last 180 (i_pushI 0 (i_iret P))))))))
theorem wx_L_press_0 (P : Option Value → hp_T → Prop) (X : String → hp_T → Prop) (ls : List (Option Value)) (st : List Value) (h : hp_T) : wp_L_press_0 P X ls st h = (i_aload 2 (i_pushI 0 (i_aload 0 (i_iload 1 (i_callV 1 10 T_X8_press X (i_i2l (i_last 180 (i_pushI 0 (i_iret P))))))))) ls st h := rfl
set_option maxRecDepth 20000 in
theorem go_L_press_0 {z : zT} {P : Option Value → hp_T → Prop} {X : String → hp_T → Prop} (hz : Cx z cL_press 4 "PanelryLaw" "press" 17 5 36) (hr : RtH z (some .int) P [(0, 9, 12, 19), (0, 9, 15, 13)] 5 36) (ho : OutOK z X 5 36 4) : Go z 0 0 0 (wp_L_press_0 P X) := 
  s_aload_n hz rfl dL_press_0 (s_iconst hz rfl dL_press_1 (s_aload_n hz rfl dL_press_2 (s_iload_n hz rfl dL_press_3 (s_callV hz ct_X8_press ⟨w905, w908, w29, by decide, by decide, by decide +kernel⟩ w906 w907 cls9 rfl rfl rfl rfl rfl rfl ho dL_press_4
    (s_i2l hz dL_press_7 (s_last hz rfl rfl rfl rfl dL_press_8 (s_goto hz (tgt := 18) rfl dL_press_9 (s_iconst hz rfl dL_press_18 (s_iretH hz hr rfl rfl dL_press_19)))))))))

def T_L_press : PTH := fun av h P => match av with
  | [.ref c, .int v, .ref o] => wp_L_press_0 P (Xo [("java/lang/IndexOutOfBoundsException", 1), ("java/lang/IllegalStateException", 2)] P) [some (.ref c), some (.int v), some (.ref o), none] [] h
  | _ => False
theorem tx_L_press (c : Nat) (v : Int32) (o : Nat) (h : hp_T) (P : Option Value → hp_T → Prop) : T_L_press [.ref c, .int v, .ref o] h P = wp_L_press_0 P (Xo [("java/lang/IndexOutOfBoundsException", 1), ("java/lang/IllegalStateException", 2)] P) [some (.ref c), some (.int v), some (.ref o), none] [] h := rfl
set_option maxRecDepth 20000 in
theorem ch_L_press : CTH yL_press cL_press 4 (some .int) [(0, 9, 12, 19), (0, 9, 15, 13)] 17 5 36 T_L_press := by
  refine ctH_of (by decide) (fun z av h P hT hz hn hr => ?_) (fun av h P hT => ?_)
  · unfold T_L_press at hT
    split at hT
    · have ho : OutOK z (Xo [("java/lang/IndexOutOfBoundsException", 1), ("java/lang/IllegalStateException", 2)] P) 5 36 4 := out_h hz hn hr (fun E h' ⟨t, ht, hp⟩ => by
        simp only [List.mem_cons, List.not_mem_nil, or_false, Prod.mk.injEq] at ht
        rcases ht with ⟨rfl, rfl⟩ | ⟨rfl, rfl⟩
        · exact ⟨by simp [exL], [], ({ startPc := 0, endPc := 9, handlerPc := 12, catchType := 19 } : ExceptionTableEntry), [({ startPc := 0, endPc := 9, handlerPc := 15, catchType := 13 } : ExceptionTableEntry)], rfl, (fun y hy => nomatch hy), rfl, by decide, w398, i_astore 3 (i_pushI 1 (i_iret P)), s_astore_n hz rfl rfl dL_press_12 (s_iconst hz rfl dL_press_13 (s_iretH hz hr rfl rfl dL_press_14)), fun ls q => ⟨isRf_ref q, hp⟩⟩
        · exact ⟨by simp [exL], [({ startPc := 0, endPc := 9, handlerPc := 12, catchType := 19 } : ExceptionTableEntry)], ({ startPc := 0, endPc := 9, handlerPc := 15, catchType := 13 } : ExceptionTableEntry), [], rfl, (by
        intro y hy
        simp only [List.mem_cons, List.not_mem_nil, or_false] at hy
        rcases hy with rfl
        · exact ⟨by decide, "java/lang/IndexOutOfBoundsException", by simp [exL], w398, by decide⟩), rfl, by decide, w228, i_astore 3 (i_pushI 2 (i_iret P)), s_astore_n hz rfl rfl dL_press_15 (s_iconst hz rfl dL_press_16 (s_iretH hz hr rfl rfl dL_press_17)), fun ls q => ⟨isRf_ref q, hp⟩⟩)
      exact ⟨_, go_L_press_0 hz hr ho, hT⟩
    · exact hT.elim
  · unfold T_L_press at hT
    split at hT
    · exact ⟨Nat.le_of_ble_eq_true rfl, by simp [isC1_int, isC1_ref, isC1_null, isC1_rf]⟩
    · exact hT.elim
def wp_L_printed_0 (P : Option Value → hp_T → Prop) (X : String → hp_T → Prop) : KT :=
  i_aload 3 (i_pushI 0 (i_aload 0 (i_iload 1 (i_iload 2 (i_callV 2 10 TC_X8_printed X (i_i2l (i_last 180 (i_pushI 0 (i_iret P)))))))))
theorem wx_L_printed_0 (P : Option Value → hp_T → Prop) (X : String → hp_T → Prop) (ls : List (Option Value)) (st : List Value) (h : hp_T) : wp_L_printed_0 P X ls st h = (i_aload 3 (i_pushI 0 (i_aload 0 (i_iload 1 (i_iload 2 (i_callV 2 10 TC_X8_printed X (i_i2l (i_last 180 (i_pushI 0 (i_iret P)))))))))) ls st h := rfl
set_option maxRecDepth 20000 in
theorem go_L_printed_0 {z : zT} {P : Option Value → hp_T → Prop} {X : String → hp_T → Prop} (hz : Cx z cL_printed 5 "PanelryLaw" "printed" 8 2 12) (hr : RtH z (some .int) P [(0, 10, 13, 19), (0, 10, 17, 21)] 2 12) (ho : OutOK z X 2 12 5) : Go z 0 0 0 (wp_L_printed_0 P X) := 
  s_aload_n hz rfl dL_printed_0 (s_iconst hz rfl dL_printed_1 (s_aload_n hz rfl dL_printed_2 (s_iload_n hz rfl dL_printed_3 (s_iload_n hz rfl dL_printed_4 (s_callV hz cc_X8_printed ⟨w921, w924, w29, by decide, by decide, by decide +kernel⟩ w922 w923 cls9 rfl rfl rfl rfl rfl rfl ho dL_printed_5
    (s_i2l hz dL_printed_8 (s_last hz rfl rfl rfl rfl dL_printed_9 (s_goto hz (tgt := 21) rfl dL_printed_10 (s_iconst hz rfl dL_printed_21 (s_iretH hz hr rfl rfl dL_printed_22))))))))))

def T_L_printed : PTH := fun av h P => match av with
  | [.ref c, .int v, .int x, .ref o] => wp_L_printed_0 P (Xo [("java/lang/IndexOutOfBoundsException", 1), ("java/lang/IllegalArgumentException", 2)] P) [some (.ref c), some (.int v), some (.int x), some (.ref o), none] [] h
  | _ => False
theorem tx_L_printed (c : Nat) (v : Int32) (x : Int32) (o : Nat) (h : hp_T) (P : Option Value → hp_T → Prop) : T_L_printed [.ref c, .int v, .int x, .ref o] h P = wp_L_printed_0 P (Xo [("java/lang/IndexOutOfBoundsException", 1), ("java/lang/IllegalArgumentException", 2)] P) [some (.ref c), some (.int v), some (.int x), some (.ref o), none] [] h := rfl
set_option maxRecDepth 20000 in
theorem ch_L_printed : CTH yL_printed cL_printed 5 (some .int) [(0, 10, 13, 19), (0, 10, 17, 21)] 8 2 12 T_L_printed := by
  refine ctH_of (by decide) (fun z av h P hT hz hn hr => ?_) (fun av h P hT => ?_)
  · unfold T_L_printed at hT
    split at hT
    · have ho : OutOK z (Xo [("java/lang/IndexOutOfBoundsException", 1), ("java/lang/IllegalArgumentException", 2)] P) 2 12 5 := out_h hz hn hr (fun E h' ⟨t, ht, hp⟩ => by
        simp only [List.mem_cons, List.not_mem_nil, or_false, Prod.mk.injEq] at ht
        rcases ht with ⟨rfl, rfl⟩ | ⟨rfl, rfl⟩
        · exact ⟨by simp [exL], [], ({ startPc := 0, endPc := 10, handlerPc := 13, catchType := 19 } : ExceptionTableEntry), [({ startPc := 0, endPc := 10, handlerPc := 17, catchType := 21 } : ExceptionTableEntry)], rfl, (fun y hy => nomatch hy), rfl, by decide, w398, i_astore 4 (i_pushI 1 (i_iret P)), s_astore hz rfl dL_printed_13 (s_iconst hz rfl dL_printed_15 (s_iretH hz hr rfl rfl dL_printed_16)), fun ls q => ⟨isRf_ref q, hp⟩⟩
        · exact ⟨by simp [exL], [({ startPc := 0, endPc := 10, handlerPc := 13, catchType := 19 } : ExceptionTableEntry)], ({ startPc := 0, endPc := 10, handlerPc := 17, catchType := 21 } : ExceptionTableEntry), [], rfl, (by
        intro y hy
        simp only [List.mem_cons, List.not_mem_nil, or_false] at hy
        rcases hy with rfl
        · exact ⟨by decide, "java/lang/IndexOutOfBoundsException", by simp [exL], w398, by decide⟩), rfl, by decide, w399, i_astore 4 (i_pushI 2 (i_iret P)), s_astore hz rfl dL_printed_17 (s_iconst hz rfl dL_printed_19 (s_iretH hz hr rfl rfl dL_printed_20)), fun ls q => ⟨isRf_ref q, hp⟩⟩)
      exact ⟨_, go_L_printed_0 hz hr ho, hT⟩
    · exact hT.elim
  · unfold T_L_printed at hT
    split at hT
    · exact ⟨Nat.le_of_ble_eq_true rfl, by simp [isC1_int, isC1_ref, isC1_null, isC1_rf]⟩
    · exact hT.elim
