theorem w227 : Jvm.Cond.codeWith ({ cls := "PanelryLaw", name := "page", desc := "(LPanelry;Z[J)I" } : Jvm.MethodName) method_3_code (4 : Nat) (Option.some Jvm.ClassFile.FieldType.int) [((0 : Nat), (9 : Nat), (12 : Nat), (13 : Nat))] ∈ WS0 := v_1 198 rfl rfl
theorem w397 : Jvm.Cond.codeWith ({ cls := "PanelryLaw", name := "panel", desc := "(LPanelry;IIIII[J)I" } : Jvm.MethodName) method_4_code (8 : Nat) (Option.some Jvm.ClassFile.FieldType.int) [((0 : Nat), (16 : Nat), (19 : Nat), (19 : Nat)), ((0 : Nat), (16 : Nat), (23 : Nat), (21 : Nat)), ((0 : Nat), (16 : Nat), (27 : Nat), (13 : Nat))] ∈ WS0 := v_2 128 rfl rfl
theorem w521 : Jvm.Cond.codeWith ({ cls := "PanelryLaw", name := "turn", desc := "(LPanelry;IZ[J)I" } : Jvm.MethodName) method_5_code (5 : Nat) (Option.some Jvm.ClassFile.FieldType.int) [((0 : Nat), (17 : Nat), (20 : Nat), (19 : Nat)), ((0 : Nat), (17 : Nat), (24 : Nat), (13 : Nat))] ∈ WS0 := v_3 12 rfl rfl
theorem w528 : Jvm.Cond.codeWith ({ cls := "PanelryLaw", name := "read", desc := "(LPanelry;IZI[J)I" } : Jvm.MethodName) method_6_code (6 : Nat) (Option.some Jvm.ClassFile.FieldType.int) [((0 : Nat), (12 : Nat), (15 : Nat), (19 : Nat))] ∈ WS0 := v_3 19 rfl rfl
theorem w538 : Jvm.Cond.codeWith ({ cls := "PanelryLaw", name := "doubts", desc := "(LPanelry;I[J)I" } : Jvm.MethodName) method_7_code (4 : Nat) (Option.some Jvm.ClassFile.FieldType.int) [((0 : Nat), (9 : Nat), (12 : Nat), (19 : Nat))] ∈ WS0 := v_3 29 rfl rfl
theorem w545 : Jvm.Cond.codeWith ({ cls := "PanelryLaw", name := "orders", desc := "(LPanelry;IZ[J)I" } : Jvm.MethodName) method_8_code (5 : Nat) (Option.some Jvm.ClassFile.FieldType.int) [((0 : Nat), (10 : Nat), (13 : Nat), (19 : Nat))] ∈ WS0 := v_3 36 rfl rfl
theorem w566 : Jvm.Cond.codeWith ({ cls := "PanelryLaw", name := "isOne", desc := "(LPanelry;IZ[J)I" } : Jvm.MethodName) method_9_code (5 : Nat) (Option.some Jvm.ClassFile.FieldType.int) [((0 : Nat), (17 : Nat), (20 : Nat), (19 : Nat))] ∈ WS0 := v_3 57 rfl rfl
theorem w579 : Jvm.Cond.codeWith ({ cls := "PanelryLaw", name := "mirror", desc := "(LPanelry;I[J)I" } : Jvm.MethodName) method_10_code (4 : Nat) (Option.some Jvm.ClassFile.FieldType.int) [((0 : Nat), (9 : Nat), (12 : Nat), (19 : Nat)), ((0 : Nat), (9 : Nat), (15 : Nat), (13 : Nat))] ∈ WS0 := v_3 70 rfl rfl
theorem w665 : Jvm.Cond.codeWith ({ cls := "PanelryLaw", name := "figure", desc := "(LPanelry;[J)I" } : Jvm.MethodName) method_11_code (3 : Nat) (Option.some Jvm.ClassFile.FieldType.int) [((0 : Nat), (8 : Nat), (11 : Nat), (13 : Nat))] ∈ WS0 := v_3 156 rfl rfl
theorem w673 : Jvm.Cond.codeWith ({ cls := "PanelryLaw", name := "draw", desc := "(LPanelry;IIIIIIIZ)I" } : Jvm.MethodName) method_12_code (10 : Nat) (Option.some Jvm.ClassFile.FieldType.int) [((0 : Nat), (17 : Nat), (20 : Nat), (19 : Nat)), ((0 : Nat), (17 : Nat), (24 : Nat), (21 : Nat)), ((0 : Nat), (17 : Nat), (28 : Nat), (13 : Nat))] ∈ WS0 := v_3 164 rfl rfl
theorem w697 : Jvm.Cond.codeWith ({ cls := "PanelryLaw", name := "balloon", desc := "(LPanelry;IIIIIIII[J)I" } : Jvm.MethodName) method_13_code (11 : Nat) (Option.some Jvm.ClassFile.FieldType.int) [((0 : Nat), (22 : Nat), (25 : Nat), (19 : Nat)), ((0 : Nat), (22 : Nat), (29 : Nat), (21 : Nat)), ((0 : Nat), (22 : Nat), (33 : Nat), (13 : Nat))] ∈ WS0 := v_3 188 rfl rfl
theorem w707 : Jvm.Cond.codeWith ({ cls := "PanelryLaw", name := "move", desc := "(LPanelry;IIII)I" } : Jvm.MethodName) method_14_code (6 : Nat) (Option.some Jvm.ClassFile.FieldType.int) [((0 : Nat), (9 : Nat), (12 : Nat), (19 : Nat)), ((0 : Nat), (9 : Nat), (16 : Nat), (21 : Nat)), ((0 : Nat), (9 : Nat), (20 : Nat), (13 : Nat))] ∈ WS0 := v_3 198 rfl rfl
theorem w718 : Jvm.Cond.codeWith ({ cls := "PanelryLaw", name := "faults", desc := "(LPanelry;II[J)I" } : Jvm.MethodName) method_15_code (5 : Nat) (Option.some Jvm.ClassFile.FieldType.int) [((0 : Nat), (10 : Nat), (13 : Nat), (19 : Nat))] ∈ WS0 := v_3 209 rfl rfl
theorem w816 : Jvm.Cond.codeWith ({ cls := "PanelryLaw", name := "tell", desc := "(LPanelry;IIIZ[J)I" } : Jvm.MethodName) method_16_code (7 : Nat) (Option.some Jvm.ClassFile.FieldType.int) [((0 : Nat), (14 : Nat), (17 : Nat), (19 : Nat)), ((0 : Nat), (14 : Nat), (21 : Nat), (21 : Nat)), ((0 : Nat), (14 : Nat), (25 : Nat), (13 : Nat))] ∈ WS0 := v_4 67 rfl rfl
theorem w852 : Jvm.Cond.codeWith ({ cls := "PanelryLaw", name := "known", desc := "(LPanelry;III[J)I" } : Jvm.MethodName) method_17_code (6 : Nat) (Option.some Jvm.ClassFile.FieldType.int) [((0 : Nat), (12 : Nat), (15 : Nat), (19 : Nat)), ((0 : Nat), (12 : Nat), (19 : Nat), (21 : Nat))] ∈ WS0 := v_4 103 rfl rfl
theorem w867 : Jvm.Cond.codeWith ({ cls := "PanelryLaw", name := "contradictions", desc := "(LPanelry;I[J)I" } : Jvm.MethodName) method_18_code (4 : Nat) (Option.some Jvm.ClassFile.FieldType.int) [((0 : Nat), (9 : Nat), (12 : Nat), (19 : Nat))] ∈ WS0 := v_4 118 rfl rfl
theorem w878 : Jvm.Cond.codeWith ({ cls := "PanelryLaw", name := "workers", desc := "(LPanelry;I[J)I" } : Jvm.MethodName) method_19_code (4 : Nat) (Option.some Jvm.ClassFile.FieldType.int) [((0 : Nat), (9 : Nat), (12 : Nat), (21 : Nat))] ∈ WS0 := v_4 129 rfl rfl
theorem w885 : Jvm.Cond.codeWith ({ cls := "PanelryLaw", name := "pass", desc := "(LPanelry;I[J)I" } : Jvm.MethodName) method_20_code (4 : Nat) (Option.some Jvm.ClassFile.FieldType.int) [((0 : Nat), (9 : Nat), (12 : Nat), (21 : Nat)), ((0 : Nat), (9 : Nat), (15 : Nat), (13 : Nat))] ∈ WS0 := v_4 136 rfl rfl
theorem w897 : Jvm.Cond.codeWith ({ cls := "PanelryLaw", name := "stage", desc := "(LPanelry;I[J)I" } : Jvm.MethodName) method_21_code (4 : Nat) (Option.some Jvm.ClassFile.FieldType.int) [((0 : Nat), (9 : Nat), (12 : Nat), (19 : Nat))] ∈ WS0 := v_4 148 rfl rfl
theorem w904 : Jvm.Cond.codeWith ({ cls := "PanelryLaw", name := "press", desc := "(LPanelry;I[J)I" } : Jvm.MethodName) method_22_code (4 : Nat) (Option.some Jvm.ClassFile.FieldType.int) [((0 : Nat), (9 : Nat), (12 : Nat), (19 : Nat)), ((0 : Nat), (9 : Nat), (15 : Nat), (13 : Nat))] ∈ WS0 := v_4 155 rfl rfl
theorem w920 : Jvm.Cond.codeWith ({ cls := "PanelryLaw", name := "printed", desc := "(LPanelry;II[J)I" } : Jvm.MethodName) method_23_code (5 : Nat) (Option.some Jvm.ClassFile.FieldType.int) [((0 : Nat), (10 : Nat), (13 : Nat), (19 : Nat)), ((0 : Nat), (10 : Nat), (17 : Nat), (21 : Nat))] ∈ WS0 := v_4 171 rfl rfl
theorem ap_callSH1 (T : PTH) (v1 : Value) (k : KT) (ls : List (Option Value)) (st : List Value) (h : hp_T) : i_callSH 1 T k ls (v1 :: st) h = (st.length ≤ 4 ∧ T [v1] h (fun v h2 => k ls (pushO v st) h2)) := rfl
theorem ap_callSH2 (T : PTH) (v1 v2 : Value) (k : KT) (ls : List (Option Value)) (st : List Value) (h : hp_T) : i_callSH 2 T k ls (v2 :: v1 :: st) h = (st.length ≤ 4 ∧ T [v1, v2] h (fun v h2 => k ls (pushO v st) h2)) := rfl
theorem ap_callSH3 (T : PTH) (v1 v2 v3 : Value) (k : KT) (ls : List (Option Value)) (st : List Value) (h : hp_T) : i_callSH 3 T k ls (v3 :: v2 :: v1 :: st) h = (st.length ≤ 4 ∧ T [v1, v2, v3] h (fun v h2 => k ls (pushO v st) h2)) := rfl
theorem ap_callSH4 (T : PTH) (v1 v2 v3 v4 : Value) (k : KT) (ls : List (Option Value)) (st : List Value) (h : hp_T) : i_callSH 4 T k ls (v4 :: v3 :: v2 :: v1 :: st) h = (st.length ≤ 4 ∧ T [v1, v2, v3, v4] h (fun v h2 => k ls (pushO v st) h2)) := rfl
theorem ap_callSH5 (T : PTH) (v1 v2 v3 v4 v5 : Value) (k : KT) (ls : List (Option Value)) (st : List Value) (h : hp_T) : i_callSH 5 T k ls (v5 :: v4 :: v3 :: v2 :: v1 :: st) h = (st.length ≤ 4 ∧ T [v1, v2, v3, v4, v5] h (fun v h2 => k ls (pushO v st) h2)) := rfl
theorem ap_callSH6 (T : PTH) (v1 v2 v3 v4 v5 v6 : Value) (k : KT) (ls : List (Option Value)) (st : List Value) (h : hp_T) : i_callSH 6 T k ls (v6 :: v5 :: v4 :: v3 :: v2 :: v1 :: st) h = (st.length ≤ 4 ∧ T [v1, v2, v3, v4, v5, v6] h (fun v h2 => k ls (pushO v st) h2)) := rfl
theorem ap_callSH7 (T : PTH) (v1 v2 v3 v4 v5 v6 v7 : Value) (k : KT) (ls : List (Option Value)) (st : List Value) (h : hp_T) : i_callSH 7 T k ls (v7 :: v6 :: v5 :: v4 :: v3 :: v2 :: v1 :: st) h = (st.length ≤ 4 ∧ T [v1, v2, v3, v4, v5, v6, v7] h (fun v h2 => k ls (pushO v st) h2)) := rfl
theorem ap_callSH8 (T : PTH) (v1 v2 v3 v4 v5 v6 v7 v8 : Value) (k : KT) (ls : List (Option Value)) (st : List Value) (h : hp_T) : i_callSH 8 T k ls (v8 :: v7 :: v6 :: v5 :: v4 :: v3 :: v2 :: v1 :: st) h = (st.length ≤ 4 ∧ T [v1, v2, v3, v4, v5, v6, v7, v8] h (fun v h2 => k ls (pushO v st) h2)) := rfl
theorem ap_callSH9 (T : PTH) (v1 v2 v3 v4 v5 v6 v7 v8 v9 : Value) (k : KT) (ls : List (Option Value)) (st : List Value) (h : hp_T) : i_callSH 9 T k ls (v9 :: v8 :: v7 :: v6 :: v5 :: v4 :: v3 :: v2 :: v1 :: st) h = (st.length ≤ 4 ∧ T [v1, v2, v3, v4, v5, v6, v7, v8, v9] h (fun v h2 => k ls (pushO v st) h2)) := rfl
theorem ap_callSH10 (T : PTH) (v1 v2 v3 v4 v5 v6 v7 v8 v9 v10 : Value) (k : KT) (ls : List (Option Value)) (st : List Value) (h : hp_T) : i_callSH 10 T k ls (v10 :: v9 :: v8 :: v7 :: v6 :: v5 :: v4 :: v3 :: v2 :: v1 :: st) h = (st.length ≤ 4 ∧ T [v1, v2, v3, v4, v5, v6, v7, v8, v9, v10] h (fun v h2 => k ls (pushO v st) h2)) := rfl
theorem ap_sld (b L : Nat) (xs : Nat → Int32) (k : KT) (i : Int32) (q : Nat) (ls : List (Option Value)) (st : List Value) (h : hp_T) : i_sld b L xs k ls (.int i :: .ref q :: st) h = ((q = b ∧ vp_in i L) ∧ k ls (.int (xs i.toNatClampNeg) :: st) h) := rfl
theorem ap_slen (b L : Nat) (k : KT) (q : Nat) (ls : List (Option Value)) (st : List Value) (h : hp_T) : i_slen b L k ls (.ref q :: st) h = (q = b ∧ k ls (.int (nI L) :: st) h) := rfl
theorem lgc_0 (x : Int64) : lg_cmp x x = 0 := by
  unfold lg_cmp
  rw [if_neg (Int64.lt_irrefl (a := x)), if_pos rfl]
def i_tsw (n : Nat) (K : Nat → KT) (KD : KT) : KT := fun ls st h => match st with
  | .int x :: r => (∀ k, k < n → x = nI k → K k ls r h) ∧ ((∀ k, k < n → ¬ x = nI k) → KD ls r h)
  | _ => False
theorem s_tsw {z : zT} {cc : ByteArray} {nL lv mc ms cells slots pc : Nat} {own nm : String} (hz : Cx z cc nL own nm lv mc ms) {dflt hi : Int} {offs : Array Int} {len dt n : Nat} {tg : Nat → Nat} {K : Nat → KT} {KD : KT} (hn : n ≤ 100) (hh : hi + 1 = (n : Int)) (d : decode cc pc = .ok (.tableswitch dflt 0 hi offs, len)) (ho : ∀ k, k < n → (offs[k]?).map (fun o => (pc : Int) + o) = some (tg k : Int)) (hd : (pc : Int) + dflt = (dt : Int)) (hG : ∀ k, k < n → Go z cells slots (tg k) (K k)) (hD : Go z cells slots dt KD) : Go z cells slots pc (i_tsw n K KD) := by
  obtain ⟨p, l, e, R, s, m, args, below, meth, c, Q, g⟩ := z
  obtain ⟨hx, hb, hml, hown, hts, hlk, hnm, hst, hRm, hB, hV⟩ := hz
  intro ls st h H locs la hk hP hS hl
  unfold i_tsw at hk
  split at hk
  · next x r =>
    obtain ⟨h1, h2⟩ := hk
    by_cases q : ∃ k, k < n ∧ x = nI k
    · obtain ⟨k, hk, rfl⟩ := q
      have e : (nI k).toInt = (k : Int) := by rw [nI_Z, iZ_t (by omega)]
      have hok := ho k hk
      cases hoff : offs[k]? with
      | none => rw [hoff] at hok; cases hok
      | some off =>
        rw [hoff] at hok
        have hok := Option.some.inj hok
        exact lv_tableIn hx hb (off := off) (tgt := tg k) d (by rw [e]; omega) (by rw [e]; omega) (by rw [e, Int.sub_zero, Int.toNat_natCast]; exact hoff) hok (hG k hk ls r h H locs la (h1 k hk rfl) hP hS hl)
    · refine lv_tableOut hx hb d ?_ hd (hD ls r h H locs la (h2 (fun k hk z => q ⟨k, hk, z⟩)) hP hS hl)
      refine Classical.byContradiction fun z => q ⟨x.toInt.toNat, by omega, ?_⟩
      rw [nI_Z, Int.toNat_of_nonneg (by omega), iZ_i]
  · exact hk.elim
def wp_L_law_0 (b L : Nat) (xs : Nat → Int32) (K23 : KT) : KT :=
  i_new 10 (i_dup (i_callI 0 T_X8_init noX (i_astore 1 (i_new 11 (i_dup (i_callI 0 T_X9_init noX (i_astore 2 (i_pushI 1 (i_newarr 180 1 (i_astore 3 (i_pushI 0 (i_istore 4 K23))))))))))))
theorem wx_L_law_0 (b L : Nat) (xs : Nat → Int32) (K23 : KT) (ls : List (Option Value)) (st : List Value) (h : hp_T) : wp_L_law_0 b L xs K23 ls st h = (i_new 10 (i_dup (i_callI 0 T_X8_init noX (i_astore 1 (i_new 11 (i_dup (i_callI 0 T_X9_init noX (i_astore 2 (i_pushI 1 (i_newarr 180 1 (i_astore 3 (i_pushI 0 (i_istore 4 K23))))))))))))) ls st h := rfl
set_option maxRecDepth 20000 in
theorem go_L_law_0 {z : zT} {b L : Nat} {xs : Nat → Int32} {nm : String} {K23 : KT} (hz : Cx z cL_law 7 "PanelryLaw" nm 20 601024 7293034) (hn : NCz z) (hs : ScZ z b L xs) (hret : ∀ {cells slots pc : Nat}, Nat.ble cells 601024 = true → Nat.ble slots 7293034 = true → decode cL_law pc = .ok (.ireturn, 1) → Go z cells slots pc i_lret) (h23 : Go z (37) (5874) 23 K23) : Go z 0 0 0 (wp_L_law_0 b L xs K23) := 
  s_new hz kO_10 cls9 w55 w56 w29 rfl rfl dL_law_0 (s_dup hz dL_law_3 (s_callI hz ct_X8_init ⟨w57, w59, w29, by decide, by decide, by decide +kernel⟩ w58 rfl rfl rfl rfl rfl out_no dL_law_4
    (s_astore_n hz rfl rfl dL_law_7 (s_new hz kO_11 cls10 w925 w926 w33 rfl rfl dL_law_8 (s_dup hz dL_law_11 (s_callI hz ct_X9_init ⟨w927, w929, w33, by decide, by decide, by decide +kernel⟩ w928 rfl rfl rfl rfl rfl out_no dL_law_12
    (s_astore_n hz rfl rfl dL_law_15 (s_iconst hz rfl dL_law_16 (s_newarr (at0 := .long) (ty := .long) hz rfl rfl rfl rfl (Or.inr (Or.inr ⟨rfl, rfl⟩)) w1216 rfl rfl rfl dL_law_17 (s_astore_n hz rfl rfl dL_law_19
    (s_iconst hz rfl dL_law_20 (s_istore hz rfl dL_law_21 (Go.widen _ _ h23 (by omega) (by omega))))))))))))))
def wp_L_law_213 (b L : Nat) (xs : Nat → Int32) (K1815 : KT) : KT :=
  K1815
theorem wx_L_law_213 (b L : Nat) (xs : Nat → Int32) (K1815 : KT) (ls : List (Option Value)) (st : List Value) (h : hp_T) : wp_L_law_213 b L xs K1815 ls st h = (K1815) ls st h := rfl
set_option maxRecDepth 20000 in
theorem go_L_law_213 {z : zT} {C S : Nat} {b L : Nat} {xs : Nat → Int32} {nm : String} {K1815 : KT} (hz : Cx z cL_law 7 "PanelryLaw" nm 20 601024 7293034) (hn : NCz z) (hs : ScZ z b L xs) (hret : ∀ {cells slots pc : Nat}, Nat.ble cells 601024 = true → Nat.ble slots 7293034 = true → decode cL_law pc = .ok (.ireturn, 1) → Go z cells slots pc i_lret) (hC : C + 0 ≤ 601024) (hS : S + 0 ≤ 7293034) (h1815 : Go z (C + 0) (S + 0) 1815 K1815) : Go z C S 213 (wp_L_law_213 b L xs K1815) := 
  s_goto hz (tgt := 1815) rfl dL_law_213 (Go.widen _ _ h1815 (by omega) (by omega))
def wp_L_law_180 (b L : Nat) (xs : Nat → Int32) (K1815 : KT) : KT :=
  i_callV 1 11 T_X9_page noX (i_istore 6 (i_aload 2 (i_callV 0 11 T_X9_thrown noX (i_iload 5 (i_iceq (i_iload 5 (i_ifne (wp_L_law_213 b L xs K1815) (i_aload 3 (i_pushI 0 (i_lald 180 (i_iload 6
    (i_i2l (i_lcmp (i_ifeq (wp_L_law_213 b L xs K1815) (i_pushI 0 i_lret)))))))))) (i_pushI 0 i_lret))))))
theorem wx_L_law_180 (b L : Nat) (xs : Nat → Int32) (K1815 : KT) (ls : List (Option Value)) (st : List Value) (h : hp_T) : wp_L_law_180 b L xs K1815 ls st h = (i_callV 1 11 T_X9_page noX (i_istore 6 (i_aload 2 (i_callV 0 11 T_X9_thrown noX (i_iload 5 (i_iceq (i_iload 5 (i_ifne (wp_L_law_213 b L xs K1815) (i_aload 3 (i_pushI 0 (i_lald 180 (i_iload 6
    (i_i2l (i_lcmp (i_ifeq (wp_L_law_213 b L xs K1815) (i_pushI 0 i_lret)))))))))) (i_pushI 0 i_lret))))))) ls st h := rfl
set_option maxRecDepth 20000 in
theorem go_L_law_180 {z : zT} {C S : Nat} {b L : Nat} {xs : Nat → Int32} {nm : String} {K1815 : KT} (hz : Cx z cL_law 7 "PanelryLaw" nm 20 601024 7293034) (hn : NCz z) (hs : ScZ z b L xs) (hret : ∀ {cells slots pc : Nat}, Nat.ble cells 601024 = true → Nat.ble slots 7293034 = true → decode cL_law pc = .ok (.ireturn, 1) → Go z cells slots pc i_lret) (hC : C + 0 ≤ 601024) (hS : S + 0 ≤ 7293034) (h1815 : Go z (C + 0) (S + 0) 1815 K1815) : Go z C S 180 (wp_L_law_180 b L xs K1815) := 
  s_callV hz ct_X9_page ⟨w1063, w1066, w33, by decide, by decide, by decide +kernel⟩ w1064 w1065 cls10 rfl rfl rfl rfl (ble_of (by omega)) (ble_of (by omega)) out_no dL_law_180 (s_istore hz rfl dL_law_183
    (s_aload_n hz rfl dL_law_185 (s_callV hz ct_X9_thrown ⟨w1059, w1062, w33, by decide, by decide, by decide +kernel⟩ w1060 w1061 cls10 rfl rfl rfl rfl (ble_of (by omega)) (ble_of (by omega)) out_no dL_law_186
    (s_iload hz dL_law_189 (s_iceq hz (tgt := 196) rfl dL_law_191 (s_iload hz dL_law_196 (s_ifne hz (tgt := 213) rfl dL_law_198 (go_L_law_213 hz hn hs hret (by omega) (by omega) (Go.widen _ _ h1815
    (by omega) (by omega))) (s_aload_n hz rfl dL_law_201 (s_iconst hz rfl dL_law_202 (s_lald hz rfl rfl rfl dL_law_203 (s_iload hz dL_law_204 (s_i2l hz dL_law_206 (s_lcmp hz dL_law_207 (s_ifeq hz
    (tgt := 213) rfl dL_law_208 (go_L_law_213 hz hn hs hret (by omega) (by omega) (Go.widen _ _ h1815 (by omega) (by omega))) (s_iconst hz rfl dL_law_211 (hret (ble_of (by omega)) (ble_of
    (by omega)) dL_law_212))))))))))) (s_iconst hz rfl dL_law_194 (hret (ble_of (by omega)) (ble_of (by omega)) dL_law_195)))))))
def wp_L_law_159 (b L : Nat) (xs : Nat → Int32) (K1815 : KT) : KT :=
  i_aload 3 (i_callSH 3 T_L_page (i_istore 5 (i_aload 2 (i_aload 0 (i_iload 4 (i_pushI 1 (i_iadd (i_sld b L xs (i_ifeq (i_pushI 0 (wp_L_law_180 b L xs K1815)) (i_pushI 1 (wp_L_law_180 b L xs K1815)))))))))))
theorem wx_L_law_159 (b L : Nat) (xs : Nat → Int32) (K1815 : KT) (ls : List (Option Value)) (st : List Value) (h : hp_T) : wp_L_law_159 b L xs K1815 ls st h = (i_aload 3 (i_callSH 3 T_L_page (i_istore 5 (i_aload 2 (i_aload 0 (i_iload 4 (i_pushI 1 (i_iadd (i_sld b L xs (i_ifeq (i_pushI 0 (wp_L_law_180 b L xs K1815)) (i_pushI 1 (wp_L_law_180 b L xs K1815)))))))))))) ls st h := rfl
set_option maxRecDepth 20000 in
theorem go_L_law_159 {z : zT} {C S : Nat} {b L : Nat} {xs : Nat → Int32} {nm : String} {K1815 : KT} (hz : Cx z cL_law 7 "PanelryLaw" nm 20 601024 7293034) (hn : NCz z) (hs : ScZ z b L xs) (hret : ∀ {cells slots pc : Nat}, Nat.ble cells 601024 = true → Nat.ble slots 7293034 = true → decode cL_law pc = .ok (.ireturn, 1) → Go z cells slots pc i_lret) (hC : C + 5 ≤ 601024) (hS : S + 117 ≤ 7293034) (h1815 : Go z (C + 5) (S + 117) 1815 K1815) : Go z C S 159 (wp_L_law_159 b L xs K1815) := 
  s_aload_n hz rfl dL_law_159 (s_callSH hz hn ch_L_page ⟨w225, w227, w28, by decide, by decide, by decide +kernel⟩ w226 rfl rfl (ble_of (by omega)) (ble_of (by omega)) dL_law_160 (s_istore hz rfl dL_law_163
    (s_aload_n hz rfl dL_law_165 (s_aload_n hz rfl dL_law_166 (s_iload hz dL_law_167 (s_iconst hz rfl dL_law_169 (s_iadd hz dL_law_170 (s_sld hz hs dL_law_171 (s_ifeq hz (tgt := 179) rfl dL_law_172
    (s_iconst hz rfl dL_law_179 (go_L_law_180 hz hn hs hret (by omega) (by omega) (Go.widen _ _ h1815 (by omega) (by omega)))) (s_iconst hz rfl dL_law_175 (s_goto hz (tgt := 180) rfl dL_law_176
    (go_L_law_180 hz hn hs hret (by omega) (by omega) (Go.widen _ _ h1815 (by omega) (by omega))))))))))))))
def wp_L_law_144 (b L : Nat) (xs : Nat → Int32) (K1815 : KT) : KT :=
  i_aload 1 (i_aload 0 (i_iload 4 (i_pushI 1 (i_iadd (i_sld b L xs (i_ifeq (i_pushI 0 (wp_L_law_159 b L xs K1815)) (i_pushI 1 (wp_L_law_159 b L xs K1815))))))))
theorem wx_L_law_144 (b L : Nat) (xs : Nat → Int32) (K1815 : KT) (ls : List (Option Value)) (st : List Value) (h : hp_T) : wp_L_law_144 b L xs K1815 ls st h = (i_aload 1 (i_aload 0 (i_iload 4 (i_pushI 1 (i_iadd (i_sld b L xs (i_ifeq (i_pushI 0 (wp_L_law_159 b L xs K1815)) (i_pushI 1 (wp_L_law_159 b L xs K1815))))))))) ls st h := rfl
set_option maxRecDepth 20000 in
theorem go_L_law_144 {z : zT} {C S : Nat} {b L : Nat} {xs : Nat → Int32} {nm : String} {K1815 : KT} (hz : Cx z cL_law 7 "PanelryLaw" nm 20 601024 7293034) (hn : NCz z) (hs : ScZ z b L xs) (hret : ∀ {cells slots pc : Nat}, Nat.ble cells 601024 = true → Nat.ble slots 7293034 = true → decode cL_law pc = .ok (.ireturn, 1) → Go z cells slots pc i_lret) (hC : C + 5 ≤ 601024) (hS : S + 117 ≤ 7293034) (h1815 : Go z (C + 5) (S + 117) 1815 K1815) : Go z C S 144 (wp_L_law_144 b L xs K1815) := 
  s_aload_n hz rfl dL_law_144 (s_aload_n hz rfl dL_law_145 (s_iload hz dL_law_146 (s_iconst hz rfl dL_law_148 (s_iadd hz dL_law_149 (s_sld hz hs dL_law_150 (s_ifeq hz (tgt := 158) rfl dL_law_151
    (s_iconst hz rfl dL_law_158 (go_L_law_159 hz hn hs hret (by omega) (by omega) (Go.widen _ _ h1815 (by omega) (by omega)))) (s_iconst hz rfl dL_law_154 (s_goto hz (tgt := 159) rfl dL_law_155
    (go_L_law_159 hz hn hs hret (by omega) (by omega) (Go.widen _ _ h1815 (by omega) (by omega)))))))))))
def wp_L_law_317 (b L : Nat) (xs : Nat → Int32) (K1815 : KT) : KT :=
  K1815
theorem wx_L_law_317 (b L : Nat) (xs : Nat → Int32) (K1815 : KT) (ls : List (Option Value)) (st : List Value) (h : hp_T) : wp_L_law_317 b L xs K1815 ls st h = (K1815) ls st h := rfl
set_option maxRecDepth 20000 in
theorem go_L_law_317 {z : zT} {C S : Nat} {b L : Nat} {xs : Nat → Int32} {nm : String} {K1815 : KT} (hz : Cx z cL_law 7 "PanelryLaw" nm 20 601024 7293034) (hn : NCz z) (hs : ScZ z b L xs) (hret : ∀ {cells slots pc : Nat}, Nat.ble cells 601024 = true → Nat.ble slots 7293034 = true → decode cL_law pc = .ok (.ireturn, 1) → Go z cells slots pc i_lret) (hC : C + 0 ≤ 601024) (hS : S + 0 ≤ 7293034) (h1815 : Go z (C + 0) (S + 0) 1815 K1815) : Go z C S 317 (wp_L_law_317 b L xs K1815) := 
  s_goto hz (tgt := 1815) rfl dL_law_317 (Go.widen _ _ h1815 (by omega) (by omega))
def wp_L_law_216 (b L : Nat) (xs : Nat → Int32) (K1815 : KT) : KT :=
  i_aload 1 (i_aload 0 (i_iload 4 (i_pushI 1 (i_iadd (i_sld b L xs (i_aload 0 (i_iload 4 (i_pushI 2 (i_iadd (i_sld b L xs (i_aload 0 (i_iload 4 (i_pushI 3 (i_iadd (i_sld b L xs (i_aload 0
    (i_iload 4 (i_pushI 4 (i_iadd (i_sld b L xs (i_aload 0 (i_iload 4 (i_pushI 5 (i_iadd (i_sld b L xs (i_aload 3 (i_callSH 7 T_L_panel (i_istore 5 (i_aload 2 (i_aload 0 (i_iload 4 (i_pushI 1
    (i_iadd (i_sld b L xs (i_aload 0 (i_iload 4 (i_pushI 2 (i_iadd (i_sld b L xs (i_aload 0 (i_iload 4 (i_pushI 3 (i_iadd (i_sld b L xs (i_aload 0 (i_iload 4 (i_pushI 4 (i_iadd (i_sld b L xs
    (i_aload 0 (i_iload 4 (i_pushI 5 (i_iadd (i_sld b L xs (i_callV 5 11 T_X9_panel noX (i_istore 6 (i_aload 2 (i_callV 0 11 T_X9_thrown noX (i_iload 5 (i_iceq (i_iload 5 (i_ifne (wp_L_law_317 b L xs K1815)
    (i_aload 3 (i_pushI 0 (i_lald 180 (i_iload 6 (i_i2l (i_lcmp (i_ifeq (wp_L_law_317 b L xs K1815) (i_pushI 0 i_lret)))))))))) (i_pushI 0 i_lret)))))))))))))))))))))))))))))))))))))))))))))))))))))))))))))
theorem wx_L_law_216 (b L : Nat) (xs : Nat → Int32) (K1815 : KT) (ls : List (Option Value)) (st : List Value) (h : hp_T) : wp_L_law_216 b L xs K1815 ls st h = (i_aload 1 (i_aload 0 (i_iload 4 (i_pushI 1 (i_iadd (i_sld b L xs (i_aload 0 (i_iload 4 (i_pushI 2 (i_iadd (i_sld b L xs (i_aload 0 (i_iload 4 (i_pushI 3 (i_iadd (i_sld b L xs (i_aload 0
    (i_iload 4 (i_pushI 4 (i_iadd (i_sld b L xs (i_aload 0 (i_iload 4 (i_pushI 5 (i_iadd (i_sld b L xs (i_aload 3 (i_callSH 7 T_L_panel (i_istore 5 (i_aload 2 (i_aload 0 (i_iload 4 (i_pushI 1
    (i_iadd (i_sld b L xs (i_aload 0 (i_iload 4 (i_pushI 2 (i_iadd (i_sld b L xs (i_aload 0 (i_iload 4 (i_pushI 3 (i_iadd (i_sld b L xs (i_aload 0 (i_iload 4 (i_pushI 4 (i_iadd (i_sld b L xs
    (i_aload 0 (i_iload 4 (i_pushI 5 (i_iadd (i_sld b L xs (i_callV 5 11 T_X9_panel noX (i_istore 6 (i_aload 2 (i_callV 0 11 T_X9_thrown noX (i_iload 5 (i_iceq (i_iload 5 (i_ifne (wp_L_law_317 b L xs K1815)
    (i_aload 3 (i_pushI 0 (i_lald 180 (i_iload 6 (i_i2l (i_lcmp (i_ifeq (wp_L_law_317 b L xs K1815) (i_pushI 0 i_lret)))))))))) (i_pushI 0 i_lret)))))))))))))))))))))))))))))))))))))))))))))))))))))))))))))) ls st h := rfl
set_option maxRecDepth 20000 in
theorem go_L_law_216 {z : zT} {C S : Nat} {b L : Nat} {xs : Nat → Int32} {nm : String} {K1815 : KT} (hz : Cx z cL_law 7 "PanelryLaw" nm 20 601024 7293034) (hn : NCz z) (hs : ScZ z b L xs) (hret : ∀ {cells slots pc : Nat}, Nat.ble cells 601024 = true → Nat.ble slots 7293034 = true → decode cL_law pc = .ok (.ireturn, 1) → Go z cells slots pc i_lret) (hC : C + 10 ≤ 601024) (hS : S + 154 ≤ 7293034) (h1815 : Go z (C + 10) (S + 154) 1815 K1815) : Go z C S 216 (wp_L_law_216 b L xs K1815) := 
  s_aload_n hz rfl dL_law_216 (s_aload_n hz rfl dL_law_217 (s_iload hz dL_law_218 (s_iconst hz rfl dL_law_220 (s_iadd hz dL_law_221 (s_sld hz hs dL_law_222 (s_aload_n hz rfl dL_law_223
    (s_iload hz dL_law_224 (s_iconst hz rfl dL_law_226 (s_iadd hz dL_law_227 (s_sld hz hs dL_law_228 (s_aload_n hz rfl dL_law_229 (s_iload hz dL_law_230 (s_iconst hz rfl dL_law_232 (s_iadd hz dL_law_233
    (s_sld hz hs dL_law_234 (s_aload_n hz rfl dL_law_235 (s_iload hz dL_law_236 (s_iconst hz rfl dL_law_238 (s_iadd hz dL_law_239 (s_sld hz hs dL_law_240 (s_aload_n hz rfl dL_law_241 (s_iload hz dL_law_242
    (s_iconst hz rfl dL_law_244 (s_iadd hz dL_law_245 (s_sld hz hs dL_law_246 (s_aload_n hz rfl dL_law_247 (s_callSH hz hn ch_L_panel ⟨w395, w397, w28, by decide, by decide, by decide +kernel⟩ w396 rfl rfl
    (ble_of (by omega)) (ble_of (by omega)) dL_law_248 (s_istore hz rfl dL_law_251 (s_aload_n hz rfl dL_law_253 (s_aload_n hz rfl dL_law_254 (s_iload hz dL_law_255 (s_iconst hz rfl dL_law_257
    (s_iadd hz dL_law_258 (s_sld hz hs dL_law_259 (s_aload_n hz rfl dL_law_260 (s_iload hz dL_law_261 (s_iconst hz rfl dL_law_263 (s_iadd hz dL_law_264 (s_sld hz hs dL_law_265 (s_aload_n hz rfl dL_law_266
    (s_iload hz dL_law_267 (s_iconst hz rfl dL_law_269 (s_iadd hz dL_law_270 (s_sld hz hs dL_law_271 (s_aload_n hz rfl dL_law_272 (s_iload hz dL_law_273 (s_iconst hz rfl dL_law_275 (s_iadd hz dL_law_276
    (s_sld hz hs dL_law_277 (s_aload_n hz rfl dL_law_278 (s_iload hz dL_law_279 (s_iconst hz rfl dL_law_281 (s_iadd hz dL_law_282 (s_sld hz hs dL_law_283 (s_callV hz ct_X9_panel ⟨w1071, w1074, w33, by decide, by decide, by decide +kernel⟩ w1072 w1073 cls10 rfl rfl rfl rfl
    (ble_of (by omega)) (ble_of (by omega)) out_no dL_law_284 (s_istore hz rfl dL_law_287 (s_aload_n hz rfl dL_law_289 (s_callV hz ct_X9_thrown ⟨w1059, w1062, w33, by decide, by decide, by decide +kernel⟩ w1060 w1061 cls10 rfl rfl rfl rfl
    (ble_of (by omega)) (ble_of (by omega)) out_no dL_law_290 (s_iload hz dL_law_293 (s_iceq hz (tgt := 300) rfl dL_law_295 (s_iload hz dL_law_300 (s_ifne hz (tgt := 317) rfl dL_law_302 (go_L_law_317 hz hn hs hret
    (by omega) (by omega) (Go.widen _ _ h1815 (by omega) (by omega))) (s_aload_n hz rfl dL_law_305 (s_iconst hz rfl dL_law_306 (s_lald hz rfl rfl rfl dL_law_307 (s_iload hz dL_law_308 (s_i2l hz dL_law_310
    (s_lcmp hz dL_law_311 (s_ifeq hz (tgt := 317) rfl dL_law_312 (go_L_law_317 hz hn hs hret (by omega) (by omega) (Go.widen _ _ h1815 (by omega) (by omega))) (s_iconst hz rfl dL_law_315
    (hret (ble_of (by omega)) (ble_of (by omega)) dL_law_316))))))))))) (s_iconst hz rfl dL_law_298 (hret (ble_of (by omega)) (ble_of (by omega)) dL_law_299))))))))))))))))))))))))))))))))))))))))))))))))))))))))))))))
def wp_L_law_408 (b L : Nat) (xs : Nat → Int32) (K1815 : KT) : KT :=
  K1815
theorem wx_L_law_408 (b L : Nat) (xs : Nat → Int32) (K1815 : KT) (ls : List (Option Value)) (st : List Value) (h : hp_T) : wp_L_law_408 b L xs K1815 ls st h = (K1815) ls st h := rfl
set_option maxRecDepth 20000 in
theorem go_L_law_408 {z : zT} {C S : Nat} {b L : Nat} {xs : Nat → Int32} {nm : String} {K1815 : KT} (hz : Cx z cL_law 7 "PanelryLaw" nm 20 601024 7293034) (hn : NCz z) (hs : ScZ z b L xs) (hret : ∀ {cells slots pc : Nat}, Nat.ble cells 601024 = true → Nat.ble slots 7293034 = true → decode cL_law pc = .ok (.ireturn, 1) → Go z cells slots pc i_lret) (hC : C + 0 ≤ 601024) (hS : S + 0 ≤ 7293034) (h1815 : Go z (C + 0) (S + 0) 1815 K1815) : Go z C S 408 (wp_L_law_408 b L xs K1815) := 
  s_goto hz (tgt := 1815) rfl dL_law_408 (Go.widen _ _ h1815 (by omega) (by omega))
def wp_L_law_402 (b L : Nat) (xs : Nat → Int32) (K1815 : KT) : KT :=
  i_lcmp (i_ifeq (wp_L_law_408 b L xs K1815) (i_pushI 0 i_lret))
theorem wx_L_law_402 (b L : Nat) (xs : Nat → Int32) (K1815 : KT) (ls : List (Option Value)) (st : List Value) (h : hp_T) : wp_L_law_402 b L xs K1815 ls st h = (i_lcmp (i_ifeq (wp_L_law_408 b L xs K1815) (i_pushI 0 i_lret))) ls st h := rfl
set_option maxRecDepth 20000 in
theorem go_L_law_402 {z : zT} {C S : Nat} {b L : Nat} {xs : Nat → Int32} {nm : String} {K1815 : KT} (hz : Cx z cL_law 7 "PanelryLaw" nm 20 601024 7293034) (hn : NCz z) (hs : ScZ z b L xs) (hret : ∀ {cells slots pc : Nat}, Nat.ble cells 601024 = true → Nat.ble slots 7293034 = true → decode cL_law pc = .ok (.ireturn, 1) → Go z cells slots pc i_lret) (hC : C + 0 ≤ 601024) (hS : S + 0 ≤ 7293034) (h1815 : Go z (C + 0) (S + 0) 1815 K1815) : Go z C S 402 (wp_L_law_402 b L xs K1815) := 
  s_lcmp hz dL_law_402 (s_ifeq hz (tgt := 408) rfl dL_law_403 (go_L_law_408 hz hn hs hret (by omega) (by omega) (Go.widen _ _ h1815 (by omega) (by omega))) (s_iconst hz rfl dL_law_406
    (hret (ble_of (by omega)) (ble_of (by omega)) dL_law_407)))
def wp_L_law_368 (b L : Nat) (xs : Nat → Int32) (K1815 : KT) : KT :=
  i_callV 2 11 T_X9_turn noX (i_istore 6 (i_aload 2 (i_callV 0 11 T_X9_thrown noX (i_iload 5 (i_iceq (i_iload 5 (i_ifne (wp_L_law_408 b L xs K1815) (i_aload 3 (i_pushI 0 (i_lald 180 (i_iload 6
    (i_ifeq (i_pushL 0 (wp_L_law_402 b L xs K1815)) (i_pushL 1 (wp_L_law_402 b L xs K1815))))))))) (i_pushI 0 i_lret))))))
theorem wx_L_law_368 (b L : Nat) (xs : Nat → Int32) (K1815 : KT) (ls : List (Option Value)) (st : List Value) (h : hp_T) : wp_L_law_368 b L xs K1815 ls st h = (i_callV 2 11 T_X9_turn noX (i_istore 6 (i_aload 2 (i_callV 0 11 T_X9_thrown noX (i_iload 5 (i_iceq (i_iload 5 (i_ifne (wp_L_law_408 b L xs K1815) (i_aload 3 (i_pushI 0 (i_lald 180 (i_iload 6
    (i_ifeq (i_pushL 0 (wp_L_law_402 b L xs K1815)) (i_pushL 1 (wp_L_law_402 b L xs K1815))))))))) (i_pushI 0 i_lret))))))) ls st h := rfl
set_option maxRecDepth 20000 in
theorem go_L_law_368 {z : zT} {C S : Nat} {b L : Nat} {xs : Nat → Int32} {nm : String} {K1815 : KT} (hz : Cx z cL_law 7 "PanelryLaw" nm 20 601024 7293034) (hn : NCz z) (hs : ScZ z b L xs) (hret : ∀ {cells slots pc : Nat}, Nat.ble cells 601024 = true → Nat.ble slots 7293034 = true → decode cL_law pc = .ok (.ireturn, 1) → Go z cells slots pc i_lret) (hC : C + 0 ≤ 601024) (hS : S + 0 ≤ 7293034) (h1815 : Go z (C + 0) (S + 0) 1815 K1815) : Go z C S 368 (wp_L_law_368 b L xs K1815) := 
  s_callV hz ct_X9_turn ⟨w1089, w1092, w33, by decide, by decide, by decide +kernel⟩ w1090 w1091 cls10 rfl rfl rfl rfl (ble_of (by omega)) (ble_of (by omega)) out_no dL_law_368 (s_istore hz rfl dL_law_371
    (s_aload_n hz rfl dL_law_373 (s_callV hz ct_X9_thrown ⟨w1059, w1062, w33, by decide, by decide, by decide +kernel⟩ w1060 w1061 cls10 rfl rfl rfl rfl (ble_of (by omega)) (ble_of (by omega)) out_no dL_law_374
    (s_iload hz dL_law_377 (s_iceq hz (tgt := 384) rfl dL_law_379 (s_iload hz dL_law_384 (s_ifne hz (tgt := 408) rfl dL_law_386 (go_L_law_408 hz hn hs hret (by omega) (by omega) (Go.widen _ _ h1815
    (by omega) (by omega))) (s_aload_n hz rfl dL_law_389 (s_iconst hz rfl dL_law_390 (s_lald hz rfl rfl rfl dL_law_391 (s_iload hz dL_law_392 (s_ifeq hz (tgt := 401) rfl dL_law_394 (s_lconst hz rfl dL_law_401
    (go_L_law_402 hz hn hs hret (by omega) (by omega) (Go.widen _ _ h1815 (by omega) (by omega)))) (s_lconst hz rfl dL_law_397 (s_goto hz (tgt := 402) rfl dL_law_398 (go_L_law_402 hz hn hs hret
    (by omega) (by omega) (Go.widen _ _ h1815 (by omega) (by omega)))))))))))) (s_iconst hz rfl dL_law_382 (hret (ble_of (by omega)) (ble_of (by omega)) dL_law_383)))))))
def wp_L_law_341 (b L : Nat) (xs : Nat → Int32) (K1815 : KT) : KT :=
  i_aload 3 (i_callSH 4 T_L_turn (i_istore 5 (i_aload 2 (i_aload 0 (i_iload 4 (i_pushI 1 (i_iadd (i_sld b L xs (i_aload 0 (i_iload 4 (i_pushI 2 (i_iadd (i_sld b L xs (i_ifeq (i_pushI 0
    (wp_L_law_368 b L xs K1815)) (i_pushI 1 (wp_L_law_368 b L xs K1815))))))))))))))))
theorem wx_L_law_341 (b L : Nat) (xs : Nat → Int32) (K1815 : KT) (ls : List (Option Value)) (st : List Value) (h : hp_T) : wp_L_law_341 b L xs K1815 ls st h = (i_aload 3 (i_callSH 4 T_L_turn (i_istore 5 (i_aload 2 (i_aload 0 (i_iload 4 (i_pushI 1 (i_iadd (i_sld b L xs (i_aload 0 (i_iload 4 (i_pushI 2 (i_iadd (i_sld b L xs (i_ifeq (i_pushI 0
    (wp_L_law_368 b L xs K1815)) (i_pushI 1 (wp_L_law_368 b L xs K1815))))))))))))))))) ls st h := rfl
set_option maxRecDepth 20000 in
theorem go_L_law_341 {z : zT} {C S : Nat} {b L : Nat} {xs : Nat → Int32} {nm : String} {K1815 : KT} (hz : Cx z cL_law 7 "PanelryLaw" nm 20 601024 7293034) (hn : NCz z) (hs : ScZ z b L xs) (hret : ∀ {cells slots pc : Nat}, Nat.ble cells 601024 = true → Nat.ble slots 7293034 = true → decode cL_law pc = .ok (.ireturn, 1) → Go z cells slots pc i_lret) (hC : C + 2 ≤ 601024) (hS : S + 12 ≤ 7293034) (h1815 : Go z (C + 2) (S + 12) 1815 K1815) : Go z C S 341 (wp_L_law_341 b L xs K1815) := 
  s_aload_n hz rfl dL_law_341 (s_callSH hz hn ch_L_turn ⟨w519, w521, w28, by decide, by decide, by decide +kernel⟩ w520 rfl rfl (ble_of (by omega)) (ble_of (by omega)) dL_law_342 (s_istore hz rfl dL_law_345
    (s_aload_n hz rfl dL_law_347 (s_aload_n hz rfl dL_law_348 (s_iload hz dL_law_349 (s_iconst hz rfl dL_law_351 (s_iadd hz dL_law_352 (s_sld hz hs dL_law_353 (s_aload_n hz rfl dL_law_354
    (s_iload hz dL_law_355 (s_iconst hz rfl dL_law_357 (s_iadd hz dL_law_358 (s_sld hz hs dL_law_359 (s_ifeq hz (tgt := 367) rfl dL_law_360 (s_iconst hz rfl dL_law_367 (go_L_law_368 hz hn hs hret
    (by omega) (by omega) (Go.widen _ _ h1815 (by omega) (by omega)))) (s_iconst hz rfl dL_law_363 (s_goto hz (tgt := 368) rfl dL_law_364 (go_L_law_368 hz hn hs hret (by omega) (by omega)
    (Go.widen _ _ h1815 (by omega) (by omega)))))))))))))))))))
def wp_L_law_320 (b L : Nat) (xs : Nat → Int32) (K1815 : KT) : KT :=
  i_aload 1 (i_aload 0 (i_iload 4 (i_pushI 1 (i_iadd (i_sld b L xs (i_aload 0 (i_iload 4 (i_pushI 2 (i_iadd (i_sld b L xs (i_ifeq (i_pushI 0 (wp_L_law_341 b L xs K1815)) (i_pushI 1 (wp_L_law_341 b L xs K1815)))))))))))))
theorem wx_L_law_320 (b L : Nat) (xs : Nat → Int32) (K1815 : KT) (ls : List (Option Value)) (st : List Value) (h : hp_T) : wp_L_law_320 b L xs K1815 ls st h = (i_aload 1 (i_aload 0 (i_iload 4 (i_pushI 1 (i_iadd (i_sld b L xs (i_aload 0 (i_iload 4 (i_pushI 2 (i_iadd (i_sld b L xs (i_ifeq (i_pushI 0 (wp_L_law_341 b L xs K1815)) (i_pushI 1 (wp_L_law_341 b L xs K1815)))))))))))))) ls st h := rfl
set_option maxRecDepth 20000 in
theorem go_L_law_320 {z : zT} {C S : Nat} {b L : Nat} {xs : Nat → Int32} {nm : String} {K1815 : KT} (hz : Cx z cL_law 7 "PanelryLaw" nm 20 601024 7293034) (hn : NCz z) (hs : ScZ z b L xs) (hret : ∀ {cells slots pc : Nat}, Nat.ble cells 601024 = true → Nat.ble slots 7293034 = true → decode cL_law pc = .ok (.ireturn, 1) → Go z cells slots pc i_lret) (hC : C + 2 ≤ 601024) (hS : S + 12 ≤ 7293034) (h1815 : Go z (C + 2) (S + 12) 1815 K1815) : Go z C S 320 (wp_L_law_320 b L xs K1815) := 
  s_aload_n hz rfl dL_law_320 (s_aload_n hz rfl dL_law_321 (s_iload hz dL_law_322 (s_iconst hz rfl dL_law_324 (s_iadd hz dL_law_325 (s_sld hz hs dL_law_326 (s_aload_n hz rfl dL_law_327
    (s_iload hz dL_law_328 (s_iconst hz rfl dL_law_330 (s_iadd hz dL_law_331 (s_sld hz hs dL_law_332 (s_ifeq hz (tgt := 340) rfl dL_law_333 (s_iconst hz rfl dL_law_340 (go_L_law_341 hz hn hs hret
    (by omega) (by omega) (Go.widen _ _ h1815 (by omega) (by omega)))) (s_iconst hz rfl dL_law_336 (s_goto hz (tgt := 341) rfl dL_law_337 (go_L_law_341 hz hn hs hret (by omega) (by omega)
    (Go.widen _ _ h1815 (by omega) (by omega))))))))))))))))
def wp_L_law_504 (b L : Nat) (xs : Nat → Int32) (K1815 : KT) : KT :=
  K1815
theorem wx_L_law_504 (b L : Nat) (xs : Nat → Int32) (K1815 : KT) (ls : List (Option Value)) (st : List Value) (h : hp_T) : wp_L_law_504 b L xs K1815 ls st h = (K1815) ls st h := rfl
set_option maxRecDepth 20000 in
theorem go_L_law_504 {z : zT} {C S : Nat} {b L : Nat} {xs : Nat → Int32} {nm : String} {K1815 : KT} (hz : Cx z cL_law 7 "PanelryLaw" nm 20 601024 7293034) (hn : NCz z) (hs : ScZ z b L xs) (hret : ∀ {cells slots pc : Nat}, Nat.ble cells 601024 = true → Nat.ble slots 7293034 = true → decode cL_law pc = .ok (.ireturn, 1) → Go z cells slots pc i_lret) (hC : C + 0 ≤ 601024) (hS : S + 0 ≤ 7293034) (h1815 : Go z (C + 0) (S + 0) 1815 K1815) : Go z C S 504 (wp_L_law_504 b L xs K1815) := 
  s_goto hz (tgt := 1815) rfl dL_law_504 (Go.widen _ _ h1815 (by omega) (by omega))
def wp_L_law_465 (b L : Nat) (xs : Nat → Int32) (K1815 : KT) : KT :=
  i_aload 0 (i_iload 4 (i_pushI 3 (i_iadd (i_sld b L xs (i_callV 3 11 T_X9_read noX (i_istore 6 (i_aload 2 (i_callV 0 11 T_X9_thrown noX (i_iload 5 (i_iceq (i_iload 5 (i_ifne (wp_L_law_504 b L xs K1815)
    (i_aload 3 (i_pushI 0 (i_lald 180 (i_iload 6 (i_i2l (i_lcmp (i_ifeq (wp_L_law_504 b L xs K1815) (i_pushI 0 i_lret)))))))))) (i_pushI 0 i_lret)))))))))))
theorem wx_L_law_465 (b L : Nat) (xs : Nat → Int32) (K1815 : KT) (ls : List (Option Value)) (st : List Value) (h : hp_T) : wp_L_law_465 b L xs K1815 ls st h = (i_aload 0 (i_iload 4 (i_pushI 3 (i_iadd (i_sld b L xs (i_callV 3 11 T_X9_read noX (i_istore 6 (i_aload 2 (i_callV 0 11 T_X9_thrown noX (i_iload 5 (i_iceq (i_iload 5 (i_ifne (wp_L_law_504 b L xs K1815)
    (i_aload 3 (i_pushI 0 (i_lald 180 (i_iload 6 (i_i2l (i_lcmp (i_ifeq (wp_L_law_504 b L xs K1815) (i_pushI 0 i_lret)))))))))) (i_pushI 0 i_lret)))))))))))) ls st h := rfl
set_option maxRecDepth 20000 in
theorem go_L_law_465 {z : zT} {C S : Nat} {b L : Nat} {xs : Nat → Int32} {nm : String} {K1815 : KT} (hz : Cx z cL_law 7 "PanelryLaw" nm 20 601024 7293034) (hn : NCz z) (hs : ScZ z b L xs) (hret : ∀ {cells slots pc : Nat}, Nat.ble cells 601024 = true → Nat.ble slots 7293034 = true → decode cL_law pc = .ok (.ireturn, 1) → Go z cells slots pc i_lret) (hC : C + 0 ≤ 601024) (hS : S + 0 ≤ 7293034) (h1815 : Go z (C + 0) (S + 0) 1815 K1815) : Go z C S 465 (wp_L_law_465 b L xs K1815) := 
  s_aload_n hz rfl dL_law_465 (s_iload hz dL_law_466 (s_iconst hz rfl dL_law_468 (s_iadd hz dL_law_469 (s_sld hz hs dL_law_470 (s_callV hz ct_X9_read ⟨w1093, w1096, w33, by decide, by decide, by decide +kernel⟩ w1094 w1095 cls10 rfl rfl rfl rfl
    (ble_of (by omega)) (ble_of (by omega)) out_no dL_law_471 (s_istore hz rfl dL_law_474 (s_aload_n hz rfl dL_law_476 (s_callV hz ct_X9_thrown ⟨w1059, w1062, w33, by decide, by decide, by decide +kernel⟩ w1060 w1061 cls10 rfl rfl rfl rfl
    (ble_of (by omega)) (ble_of (by omega)) out_no dL_law_477 (s_iload hz dL_law_480 (s_iceq hz (tgt := 487) rfl dL_law_482 (s_iload hz dL_law_487 (s_ifne hz (tgt := 504) rfl dL_law_489 (go_L_law_504 hz hn hs hret
    (by omega) (by omega) (Go.widen _ _ h1815 (by omega) (by omega))) (s_aload_n hz rfl dL_law_492 (s_iconst hz rfl dL_law_493 (s_lald hz rfl rfl rfl dL_law_494 (s_iload hz dL_law_495 (s_i2l hz dL_law_497
    (s_lcmp hz dL_law_498 (s_ifeq hz (tgt := 504) rfl dL_law_499 (go_L_law_504 hz hn hs hret (by omega) (by omega) (Go.widen _ _ h1815 (by omega) (by omega))) (s_iconst hz rfl dL_law_502
    (hret (ble_of (by omega)) (ble_of (by omega)) dL_law_503))))))))))) (s_iconst hz rfl dL_law_485 (hret (ble_of (by omega)) (ble_of (by omega)) dL_law_486))))))))))))
def wp_L_law_432 (b L : Nat) (xs : Nat → Int32) (K1815 : KT) : KT :=
  i_aload 0 (i_iload 4 (i_pushI 3 (i_iadd (i_sld b L xs (i_aload 3 (i_callSH 5 T_L_read (i_istore 5 (i_aload 2 (i_aload 0 (i_iload 4 (i_pushI 1 (i_iadd (i_sld b L xs (i_aload 0 (i_iload 4
    (i_pushI 2 (i_iadd (i_sld b L xs (i_ifeq (i_pushI 0 (wp_L_law_465 b L xs K1815)) (i_pushI 1 (wp_L_law_465 b L xs K1815)))))))))))))))))))))
theorem wx_L_law_432 (b L : Nat) (xs : Nat → Int32) (K1815 : KT) (ls : List (Option Value)) (st : List Value) (h : hp_T) : wp_L_law_432 b L xs K1815 ls st h = (i_aload 0 (i_iload 4 (i_pushI 3 (i_iadd (i_sld b L xs (i_aload 3 (i_callSH 5 T_L_read (i_istore 5 (i_aload 2 (i_aload 0 (i_iload 4 (i_pushI 1 (i_iadd (i_sld b L xs (i_aload 0 (i_iload 4
    (i_pushI 2 (i_iadd (i_sld b L xs (i_ifeq (i_pushI 0 (wp_L_law_465 b L xs K1815)) (i_pushI 1 (wp_L_law_465 b L xs K1815)))))))))))))))))))))) ls st h := rfl
set_option maxRecDepth 20000 in
theorem go_L_law_432 {z : zT} {C S : Nat} {b L : Nat} {xs : Nat → Int32} {nm : String} {K1815 : KT} (hz : Cx z cL_law 7 "PanelryLaw" nm 20 601024 7293034) (hn : NCz z) (hs : ScZ z b L xs) (hret : ∀ {cells slots pc : Nat}, Nat.ble cells 601024 = true → Nat.ble slots 7293034 = true → decode cL_law pc = .ok (.ireturn, 1) → Go z cells slots pc i_lret) (hC : C + 3 ≤ 601024) (hS : S + 19 ≤ 7293034) (h1815 : Go z (C + 3) (S + 19) 1815 K1815) : Go z C S 432 (wp_L_law_432 b L xs K1815) := 
  s_aload_n hz rfl dL_law_432 (s_iload hz dL_law_433 (s_iconst hz rfl dL_law_435 (s_iadd hz dL_law_436 (s_sld hz hs dL_law_437 (s_aload_n hz rfl dL_law_438 (s_callSH hz hn ch_L_read ⟨w526, w528, w28, by decide, by decide, by decide +kernel⟩ w527 rfl rfl
    (ble_of (by omega)) (ble_of (by omega)) dL_law_439 (s_istore hz rfl dL_law_442 (s_aload_n hz rfl dL_law_444 (s_aload_n hz rfl dL_law_445 (s_iload hz dL_law_446 (s_iconst hz rfl dL_law_448
    (s_iadd hz dL_law_449 (s_sld hz hs dL_law_450 (s_aload_n hz rfl dL_law_451 (s_iload hz dL_law_452 (s_iconst hz rfl dL_law_454 (s_iadd hz dL_law_455 (s_sld hz hs dL_law_456 (s_ifeq hz
    (tgt := 464) rfl dL_law_457 (s_iconst hz rfl dL_law_464 (go_L_law_465 hz hn hs hret (by omega) (by omega) (Go.widen _ _ h1815 (by omega) (by omega)))) (s_iconst hz rfl dL_law_460 (s_goto hz
    (tgt := 465) rfl dL_law_461 (go_L_law_465 hz hn hs hret (by omega) (by omega) (Go.widen _ _ h1815 (by omega) (by omega))))))))))))))))))))))))
def wp_L_law_411 (b L : Nat) (xs : Nat → Int32) (K1815 : KT) : KT :=
  i_aload 1 (i_aload 0 (i_iload 4 (i_pushI 1 (i_iadd (i_sld b L xs (i_aload 0 (i_iload 4 (i_pushI 2 (i_iadd (i_sld b L xs (i_ifeq (i_pushI 0 (wp_L_law_432 b L xs K1815)) (i_pushI 1 (wp_L_law_432 b L xs K1815)))))))))))))
theorem wx_L_law_411 (b L : Nat) (xs : Nat → Int32) (K1815 : KT) (ls : List (Option Value)) (st : List Value) (h : hp_T) : wp_L_law_411 b L xs K1815 ls st h = (i_aload 1 (i_aload 0 (i_iload 4 (i_pushI 1 (i_iadd (i_sld b L xs (i_aload 0 (i_iload 4 (i_pushI 2 (i_iadd (i_sld b L xs (i_ifeq (i_pushI 0 (wp_L_law_432 b L xs K1815)) (i_pushI 1 (wp_L_law_432 b L xs K1815)))))))))))))) ls st h := rfl
set_option maxRecDepth 20000 in
theorem go_L_law_411 {z : zT} {C S : Nat} {b L : Nat} {xs : Nat → Int32} {nm : String} {K1815 : KT} (hz : Cx z cL_law 7 "PanelryLaw" nm 20 601024 7293034) (hn : NCz z) (hs : ScZ z b L xs) (hret : ∀ {cells slots pc : Nat}, Nat.ble cells 601024 = true → Nat.ble slots 7293034 = true → decode cL_law pc = .ok (.ireturn, 1) → Go z cells slots pc i_lret) (hC : C + 3 ≤ 601024) (hS : S + 19 ≤ 7293034) (h1815 : Go z (C + 3) (S + 19) 1815 K1815) : Go z C S 411 (wp_L_law_411 b L xs K1815) := 
  s_aload_n hz rfl dL_law_411 (s_aload_n hz rfl dL_law_412 (s_iload hz dL_law_413 (s_iconst hz rfl dL_law_415 (s_iadd hz dL_law_416 (s_sld hz hs dL_law_417 (s_aload_n hz rfl dL_law_418
    (s_iload hz dL_law_419 (s_iconst hz rfl dL_law_421 (s_iadd hz dL_law_422 (s_sld hz hs dL_law_423 (s_ifeq hz (tgt := 431) rfl dL_law_424 (s_iconst hz rfl dL_law_431 (go_L_law_432 hz hn hs hret
    (by omega) (by omega) (Go.widen _ _ h1815 (by omega) (by omega)))) (s_iconst hz rfl dL_law_427 (s_goto hz (tgt := 432) rfl dL_law_428 (go_L_law_432 hz hn hs hret (by omega) (by omega)
    (Go.widen _ _ h1815 (by omega) (by omega))))))))))))))))
def wp_L_law_560 (b L : Nat) (xs : Nat → Int32) (K1815 : KT) : KT :=
  K1815
theorem wx_L_law_560 (b L : Nat) (xs : Nat → Int32) (K1815 : KT) (ls : List (Option Value)) (st : List Value) (h : hp_T) : wp_L_law_560 b L xs K1815 ls st h = (K1815) ls st h := rfl
set_option maxRecDepth 20000 in
theorem go_L_law_560 {z : zT} {C S : Nat} {b L : Nat} {xs : Nat → Int32} {nm : String} {K1815 : KT} (hz : Cx z cL_law 7 "PanelryLaw" nm 20 601024 7293034) (hn : NCz z) (hs : ScZ z b L xs) (hret : ∀ {cells slots pc : Nat}, Nat.ble cells 601024 = true → Nat.ble slots 7293034 = true → decode cL_law pc = .ok (.ireturn, 1) → Go z cells slots pc i_lret) (hC : C + 0 ≤ 601024) (hS : S + 0 ≤ 7293034) (h1815 : Go z (C + 0) (S + 0) 1815 K1815) : Go z C S 560 (wp_L_law_560 b L xs K1815) := 
  s_goto hz (tgt := 1815) rfl dL_law_560 (Go.widen _ _ h1815 (by omega) (by omega))
def wp_L_law_507 (b L : Nat) (xs : Nat → Int32) (K1815 : KT) : KT :=
  i_aload 1 (i_aload 0 (i_iload 4 (i_pushI 1 (i_iadd (i_sld b L xs (i_aload 3 (i_callSH 3 T_L_doubts (i_istore 5 (i_aload 2 (i_aload 0 (i_iload 4 (i_pushI 1 (i_iadd (i_sld b L xs (i_callV 1 11 T_X9_doubts noX
    (i_istore 6 (i_aload 2 (i_callV 0 11 T_X9_thrown noX (i_iload 5 (i_iceq (i_iload 5 (i_ifne (wp_L_law_560 b L xs K1815) (i_aload 3 (i_pushI 0 (i_lald 180 (i_iload 6 (i_i2l (i_lcmp (i_ifeq
    (wp_L_law_560 b L xs K1815) (i_pushI 0 i_lret)))))))))) (i_pushI 0 i_lret)))))))))))))))))))))
theorem wx_L_law_507 (b L : Nat) (xs : Nat → Int32) (K1815 : KT) (ls : List (Option Value)) (st : List Value) (h : hp_T) : wp_L_law_507 b L xs K1815 ls st h = (i_aload 1 (i_aload 0 (i_iload 4 (i_pushI 1 (i_iadd (i_sld b L xs (i_aload 3 (i_callSH 3 T_L_doubts (i_istore 5 (i_aload 2 (i_aload 0 (i_iload 4 (i_pushI 1 (i_iadd (i_sld b L xs (i_callV 1 11 T_X9_doubts noX
    (i_istore 6 (i_aload 2 (i_callV 0 11 T_X9_thrown noX (i_iload 5 (i_iceq (i_iload 5 (i_ifne (wp_L_law_560 b L xs K1815) (i_aload 3 (i_pushI 0 (i_lald 180 (i_iload 6 (i_i2l (i_lcmp (i_ifeq
    (wp_L_law_560 b L xs K1815) (i_pushI 0 i_lret)))))))))) (i_pushI 0 i_lret)))))))))))))))))))))) ls st h := rfl
set_option maxRecDepth 20000 in
theorem go_L_law_507 {z : zT} {C S : Nat} {b L : Nat} {xs : Nat → Int32} {nm : String} {K1815 : KT} (hz : Cx z cL_law 7 "PanelryLaw" nm 20 601024 7293034) (hn : NCz z) (hs : ScZ z b L xs) (hret : ∀ {cells slots pc : Nat}, Nat.ble cells 601024 = true → Nat.ble slots 7293034 = true → decode cL_law pc = .ok (.ireturn, 1) → Go z cells slots pc i_lret) (hC : C + 3 ≤ 601024) (hS : S + 19 ≤ 7293034) (h1815 : Go z (C + 3) (S + 19) 1815 K1815) : Go z C S 507 (wp_L_law_507 b L xs K1815) := 
  s_aload_n hz rfl dL_law_507 (s_aload_n hz rfl dL_law_508 (s_iload hz dL_law_509 (s_iconst hz rfl dL_law_511 (s_iadd hz dL_law_512 (s_sld hz hs dL_law_513 (s_aload_n hz rfl dL_law_514
    (s_callSH hz hn ch_L_doubts ⟨w536, w538, w28, by decide, by decide, by decide +kernel⟩ w537 rfl rfl (ble_of (by omega)) (ble_of (by omega)) dL_law_515 (s_istore hz rfl dL_law_518 (s_aload_n hz rfl dL_law_520
    (s_aload_n hz rfl dL_law_521 (s_iload hz dL_law_522 (s_iconst hz rfl dL_law_524 (s_iadd hz dL_law_525 (s_sld hz hs dL_law_526 (s_callV hz ct_X9_doubts ⟨w1108, w1111, w33, by decide, by decide, by decide +kernel⟩ w1109 w1110 cls10 rfl rfl rfl rfl
    (ble_of (by omega)) (ble_of (by omega)) out_no dL_law_527 (s_istore hz rfl dL_law_530 (s_aload_n hz rfl dL_law_532 (s_callV hz ct_X9_thrown ⟨w1059, w1062, w33, by decide, by decide, by decide +kernel⟩ w1060 w1061 cls10 rfl rfl rfl rfl
    (ble_of (by omega)) (ble_of (by omega)) out_no dL_law_533 (s_iload hz dL_law_536 (s_iceq hz (tgt := 543) rfl dL_law_538 (s_iload hz dL_law_543 (s_ifne hz (tgt := 560) rfl dL_law_545 (go_L_law_560 hz hn hs hret
    (by omega) (by omega) (Go.widen _ _ h1815 (by omega) (by omega))) (s_aload_n hz rfl dL_law_548 (s_iconst hz rfl dL_law_549 (s_lald hz rfl rfl rfl dL_law_550 (s_iload hz dL_law_551 (s_i2l hz dL_law_553
    (s_lcmp hz dL_law_554 (s_ifeq hz (tgt := 560) rfl dL_law_555 (go_L_law_560 hz hn hs hret (by omega) (by omega) (Go.widen _ _ h1815 (by omega) (by omega))) (s_iconst hz rfl dL_law_558
    (hret (ble_of (by omega)) (ble_of (by omega)) dL_law_559))))))))))) (s_iconst hz rfl dL_law_541 (hret (ble_of (by omega)) (ble_of (by omega)) dL_law_542))))))))))))))))))))))
def wp_L_law_644 (b L : Nat) (xs : Nat → Int32) (K1815 : KT) : KT :=
  K1815
theorem wx_L_law_644 (b L : Nat) (xs : Nat → Int32) (K1815 : KT) (ls : List (Option Value)) (st : List Value) (h : hp_T) : wp_L_law_644 b L xs K1815 ls st h = (K1815) ls st h := rfl
set_option maxRecDepth 20000 in
theorem go_L_law_644 {z : zT} {C S : Nat} {b L : Nat} {xs : Nat → Int32} {nm : String} {K1815 : KT} (hz : Cx z cL_law 7 "PanelryLaw" nm 20 601024 7293034) (hn : NCz z) (hs : ScZ z b L xs) (hret : ∀ {cells slots pc : Nat}, Nat.ble cells 601024 = true → Nat.ble slots 7293034 = true → decode cL_law pc = .ok (.ireturn, 1) → Go z cells slots pc i_lret) (hC : C + 0 ≤ 601024) (hS : S + 0 ≤ 7293034) (h1815 : Go z (C + 0) (S + 0) 1815 K1815) : Go z C S 644 (wp_L_law_644 b L xs K1815) := 
  s_goto hz (tgt := 1815) rfl dL_law_644 (Go.widen _ _ h1815 (by omega) (by omega))
def wp_L_law_611 (b L : Nat) (xs : Nat → Int32) (K1815 : KT) : KT :=
  i_callV 2 11 T_X9_orders noX (i_istore 6 (i_aload 2 (i_callV 0 11 T_X9_thrown noX (i_iload 5 (i_iceq (i_iload 5 (i_ifne (wp_L_law_644 b L xs K1815) (i_aload 3 (i_pushI 0 (i_lald 180
    (i_iload 6 (i_i2l (i_lcmp (i_ifeq (wp_L_law_644 b L xs K1815) (i_pushI 0 i_lret)))))))))) (i_pushI 0 i_lret))))))
theorem wx_L_law_611 (b L : Nat) (xs : Nat → Int32) (K1815 : KT) (ls : List (Option Value)) (st : List Value) (h : hp_T) : wp_L_law_611 b L xs K1815 ls st h = (i_callV 2 11 T_X9_orders noX (i_istore 6 (i_aload 2 (i_callV 0 11 T_X9_thrown noX (i_iload 5 (i_iceq (i_iload 5 (i_ifne (wp_L_law_644 b L xs K1815) (i_aload 3 (i_pushI 0 (i_lald 180
    (i_iload 6 (i_i2l (i_lcmp (i_ifeq (wp_L_law_644 b L xs K1815) (i_pushI 0 i_lret)))))))))) (i_pushI 0 i_lret))))))) ls st h := rfl
set_option maxRecDepth 20000 in
theorem go_L_law_611 {z : zT} {C S : Nat} {b L : Nat} {xs : Nat → Int32} {nm : String} {K1815 : KT} (hz : Cx z cL_law 7 "PanelryLaw" nm 20 601024 7293034) (hn : NCz z) (hs : ScZ z b L xs) (hret : ∀ {cells slots pc : Nat}, Nat.ble cells 601024 = true → Nat.ble slots 7293034 = true → decode cL_law pc = .ok (.ireturn, 1) → Go z cells slots pc i_lret) (hC : C + 0 ≤ 601024) (hS : S + 0 ≤ 7293034) (h1815 : Go z (C + 0) (S + 0) 1815 K1815) : Go z C S 611 (wp_L_law_611 b L xs K1815) := 
  s_callV hz ct_X9_orders ⟨w1112, w1115, w33, by decide, by decide, by decide +kernel⟩ w1113 w1114 cls10 rfl rfl rfl rfl (ble_of (by omega)) (ble_of (by omega)) out_no dL_law_611 (s_istore hz rfl dL_law_614
    (s_aload_n hz rfl dL_law_616 (s_callV hz ct_X9_thrown ⟨w1059, w1062, w33, by decide, by decide, by decide +kernel⟩ w1060 w1061 cls10 rfl rfl rfl rfl (ble_of (by omega)) (ble_of (by omega)) out_no dL_law_617
    (s_iload hz dL_law_620 (s_iceq hz (tgt := 627) rfl dL_law_622 (s_iload hz dL_law_627 (s_ifne hz (tgt := 644) rfl dL_law_629 (go_L_law_644 hz hn hs hret (by omega) (by omega) (Go.widen _ _ h1815
    (by omega) (by omega))) (s_aload_n hz rfl dL_law_632 (s_iconst hz rfl dL_law_633 (s_lald hz rfl rfl rfl dL_law_634 (s_iload hz dL_law_635 (s_i2l hz dL_law_637 (s_lcmp hz dL_law_638 (s_ifeq hz
    (tgt := 644) rfl dL_law_639 (go_L_law_644 hz hn hs hret (by omega) (by omega) (Go.widen _ _ h1815 (by omega) (by omega))) (s_iconst hz rfl dL_law_642 (hret (ble_of (by omega)) (ble_of
    (by omega)) dL_law_643))))))))))) (s_iconst hz rfl dL_law_625 (hret (ble_of (by omega)) (ble_of (by omega)) dL_law_626)))))))
def wp_L_law_584 (b L : Nat) (xs : Nat → Int32) (K1815 : KT) : KT :=
  i_aload 3 (i_callSH 4 T_L_orders (i_istore 5 (i_aload 2 (i_aload 0 (i_iload 4 (i_pushI 1 (i_iadd (i_sld b L xs (i_aload 0 (i_iload 4 (i_pushI 2 (i_iadd (i_sld b L xs (i_ifeq (i_pushI 0
    (wp_L_law_611 b L xs K1815)) (i_pushI 1 (wp_L_law_611 b L xs K1815))))))))))))))))
theorem wx_L_law_584 (b L : Nat) (xs : Nat → Int32) (K1815 : KT) (ls : List (Option Value)) (st : List Value) (h : hp_T) : wp_L_law_584 b L xs K1815 ls st h = (i_aload 3 (i_callSH 4 T_L_orders (i_istore 5 (i_aload 2 (i_aload 0 (i_iload 4 (i_pushI 1 (i_iadd (i_sld b L xs (i_aload 0 (i_iload 4 (i_pushI 2 (i_iadd (i_sld b L xs (i_ifeq (i_pushI 0
    (wp_L_law_611 b L xs K1815)) (i_pushI 1 (wp_L_law_611 b L xs K1815))))))))))))))))) ls st h := rfl
set_option maxRecDepth 20000 in
theorem go_L_law_584 {z : zT} {C S : Nat} {b L : Nat} {xs : Nat → Int32} {nm : String} {K1815 : KT} (hz : Cx z cL_law 7 "PanelryLaw" nm 20 601024 7293034) (hn : NCz z) (hs : ScZ z b L xs) (hret : ∀ {cells slots pc : Nat}, Nat.ble cells 601024 = true → Nat.ble slots 7293034 = true → decode cL_law pc = .ok (.ireturn, 1) → Go z cells slots pc i_lret) (hC : C + 1 ≤ 601024) (hS : S + 6 ≤ 7293034) (h1815 : Go z (C + 1) (S + 6) 1815 K1815) : Go z C S 584 (wp_L_law_584 b L xs K1815) := 
  s_aload_n hz rfl dL_law_584 (s_callSH hz hn ch_L_orders ⟨w543, w545, w28, by decide, by decide, by decide +kernel⟩ w544 rfl rfl (ble_of (by omega)) (ble_of (by omega)) dL_law_585 (s_istore hz rfl dL_law_588
    (s_aload_n hz rfl dL_law_590 (s_aload_n hz rfl dL_law_591 (s_iload hz dL_law_592 (s_iconst hz rfl dL_law_594 (s_iadd hz dL_law_595 (s_sld hz hs dL_law_596 (s_aload_n hz rfl dL_law_597
    (s_iload hz dL_law_598 (s_iconst hz rfl dL_law_600 (s_iadd hz dL_law_601 (s_sld hz hs dL_law_602 (s_ifeq hz (tgt := 610) rfl dL_law_603 (s_iconst hz rfl dL_law_610 (go_L_law_611 hz hn hs hret
    (by omega) (by omega) (Go.widen _ _ h1815 (by omega) (by omega)))) (s_iconst hz rfl dL_law_606 (s_goto hz (tgt := 611) rfl dL_law_607 (go_L_law_611 hz hn hs hret (by omega) (by omega)
    (Go.widen _ _ h1815 (by omega) (by omega)))))))))))))))))))
def wp_L_law_563 (b L : Nat) (xs : Nat → Int32) (K1815 : KT) : KT :=
  i_aload 1 (i_aload 0 (i_iload 4 (i_pushI 1 (i_iadd (i_sld b L xs (i_aload 0 (i_iload 4 (i_pushI 2 (i_iadd (i_sld b L xs (i_ifeq (i_pushI 0 (wp_L_law_584 b L xs K1815)) (i_pushI 1 (wp_L_law_584 b L xs K1815)))))))))))))
theorem wx_L_law_563 (b L : Nat) (xs : Nat → Int32) (K1815 : KT) (ls : List (Option Value)) (st : List Value) (h : hp_T) : wp_L_law_563 b L xs K1815 ls st h = (i_aload 1 (i_aload 0 (i_iload 4 (i_pushI 1 (i_iadd (i_sld b L xs (i_aload 0 (i_iload 4 (i_pushI 2 (i_iadd (i_sld b L xs (i_ifeq (i_pushI 0 (wp_L_law_584 b L xs K1815)) (i_pushI 1 (wp_L_law_584 b L xs K1815)))))))))))))) ls st h := rfl
set_option maxRecDepth 20000 in
theorem go_L_law_563 {z : zT} {C S : Nat} {b L : Nat} {xs : Nat → Int32} {nm : String} {K1815 : KT} (hz : Cx z cL_law 7 "PanelryLaw" nm 20 601024 7293034) (hn : NCz z) (hs : ScZ z b L xs) (hret : ∀ {cells slots pc : Nat}, Nat.ble cells 601024 = true → Nat.ble slots 7293034 = true → decode cL_law pc = .ok (.ireturn, 1) → Go z cells slots pc i_lret) (hC : C + 1 ≤ 601024) (hS : S + 6 ≤ 7293034) (h1815 : Go z (C + 1) (S + 6) 1815 K1815) : Go z C S 563 (wp_L_law_563 b L xs K1815) := 
  s_aload_n hz rfl dL_law_563 (s_aload_n hz rfl dL_law_564 (s_iload hz dL_law_565 (s_iconst hz rfl dL_law_567 (s_iadd hz dL_law_568 (s_sld hz hs dL_law_569 (s_aload_n hz rfl dL_law_570
    (s_iload hz dL_law_571 (s_iconst hz rfl dL_law_573 (s_iadd hz dL_law_574 (s_sld hz hs dL_law_575 (s_ifeq hz (tgt := 583) rfl dL_law_576 (s_iconst hz rfl dL_law_583 (go_L_law_584 hz hn hs hret
    (by omega) (by omega) (Go.widen _ _ h1815 (by omega) (by omega)))) (s_iconst hz rfl dL_law_579 (s_goto hz (tgt := 584) rfl dL_law_580 (go_L_law_584 hz hn hs hret (by omega) (by omega)
    (Go.widen _ _ h1815 (by omega) (by omega))))))))))))))))
def wp_L_law_735 (b L : Nat) (xs : Nat → Int32) (K1815 : KT) : KT :=
  K1815
theorem wx_L_law_735 (b L : Nat) (xs : Nat → Int32) (K1815 : KT) (ls : List (Option Value)) (st : List Value) (h : hp_T) : wp_L_law_735 b L xs K1815 ls st h = (K1815) ls st h := rfl
set_option maxRecDepth 20000 in
theorem go_L_law_735 {z : zT} {C S : Nat} {b L : Nat} {xs : Nat → Int32} {nm : String} {K1815 : KT} (hz : Cx z cL_law 7 "PanelryLaw" nm 20 601024 7293034) (hn : NCz z) (hs : ScZ z b L xs) (hret : ∀ {cells slots pc : Nat}, Nat.ble cells 601024 = true → Nat.ble slots 7293034 = true → decode cL_law pc = .ok (.ireturn, 1) → Go z cells slots pc i_lret) (hC : C + 0 ≤ 601024) (hS : S + 0 ≤ 7293034) (h1815 : Go z (C + 0) (S + 0) 1815 K1815) : Go z C S 735 (wp_L_law_735 b L xs K1815) := 
  s_goto hz (tgt := 1815) rfl dL_law_735 (Go.widen _ _ h1815 (by omega) (by omega))
def wp_L_law_729 (b L : Nat) (xs : Nat → Int32) (K1815 : KT) : KT :=
  i_lcmp (i_ifeq (wp_L_law_735 b L xs K1815) (i_pushI 0 i_lret))
theorem wx_L_law_729 (b L : Nat) (xs : Nat → Int32) (K1815 : KT) (ls : List (Option Value)) (st : List Value) (h : hp_T) : wp_L_law_729 b L xs K1815 ls st h = (i_lcmp (i_ifeq (wp_L_law_735 b L xs K1815) (i_pushI 0 i_lret))) ls st h := rfl
set_option maxRecDepth 20000 in
theorem go_L_law_729 {z : zT} {C S : Nat} {b L : Nat} {xs : Nat → Int32} {nm : String} {K1815 : KT} (hz : Cx z cL_law 7 "PanelryLaw" nm 20 601024 7293034) (hn : NCz z) (hs : ScZ z b L xs) (hret : ∀ {cells slots pc : Nat}, Nat.ble cells 601024 = true → Nat.ble slots 7293034 = true → decode cL_law pc = .ok (.ireturn, 1) → Go z cells slots pc i_lret) (hC : C + 0 ≤ 601024) (hS : S + 0 ≤ 7293034) (h1815 : Go z (C + 0) (S + 0) 1815 K1815) : Go z C S 729 (wp_L_law_729 b L xs K1815) := 
  s_lcmp hz dL_law_729 (s_ifeq hz (tgt := 735) rfl dL_law_730 (go_L_law_735 hz hn hs hret (by omega) (by omega) (Go.widen _ _ h1815 (by omega) (by omega))) (s_iconst hz rfl dL_law_733
    (hret (ble_of (by omega)) (ble_of (by omega)) dL_law_734)))
def wp_L_law_695 (b L : Nat) (xs : Nat → Int32) (K1815 : KT) : KT :=
  i_callV 2 11 T_X9_isOne noX (i_istore 6 (i_aload 2 (i_callV 0 11 T_X9_thrown noX (i_iload 5 (i_iceq (i_iload 5 (i_ifne (wp_L_law_735 b L xs K1815) (i_aload 3 (i_pushI 0 (i_lald 180 (i_iload 6
    (i_ifeq (i_pushL 0 (wp_L_law_729 b L xs K1815)) (i_pushL 1 (wp_L_law_729 b L xs K1815))))))))) (i_pushI 0 i_lret))))))
theorem wx_L_law_695 (b L : Nat) (xs : Nat → Int32) (K1815 : KT) (ls : List (Option Value)) (st : List Value) (h : hp_T) : wp_L_law_695 b L xs K1815 ls st h = (i_callV 2 11 T_X9_isOne noX (i_istore 6 (i_aload 2 (i_callV 0 11 T_X9_thrown noX (i_iload 5 (i_iceq (i_iload 5 (i_ifne (wp_L_law_735 b L xs K1815) (i_aload 3 (i_pushI 0 (i_lald 180 (i_iload 6
    (i_ifeq (i_pushL 0 (wp_L_law_729 b L xs K1815)) (i_pushL 1 (wp_L_law_729 b L xs K1815))))))))) (i_pushI 0 i_lret))))))) ls st h := rfl
set_option maxRecDepth 20000 in
theorem go_L_law_695 {z : zT} {C S : Nat} {b L : Nat} {xs : Nat → Int32} {nm : String} {K1815 : KT} (hz : Cx z cL_law 7 "PanelryLaw" nm 20 601024 7293034) (hn : NCz z) (hs : ScZ z b L xs) (hret : ∀ {cells slots pc : Nat}, Nat.ble cells 601024 = true → Nat.ble slots 7293034 = true → decode cL_law pc = .ok (.ireturn, 1) → Go z cells slots pc i_lret) (hC : C + 0 ≤ 601024) (hS : S + 0 ≤ 7293034) (h1815 : Go z (C + 0) (S + 0) 1815 K1815) : Go z C S 695 (wp_L_law_695 b L xs K1815) := 
  s_callV hz ct_X9_isOne ⟨w1120, w1123, w33, by decide, by decide, by decide +kernel⟩ w1121 w1122 cls10 rfl rfl rfl rfl (ble_of (by omega)) (ble_of (by omega)) out_no dL_law_695 (s_istore hz rfl dL_law_698
    (s_aload_n hz rfl dL_law_700 (s_callV hz ct_X9_thrown ⟨w1059, w1062, w33, by decide, by decide, by decide +kernel⟩ w1060 w1061 cls10 rfl rfl rfl rfl (ble_of (by omega)) (ble_of (by omega)) out_no dL_law_701
    (s_iload hz dL_law_704 (s_iceq hz (tgt := 711) rfl dL_law_706 (s_iload hz dL_law_711 (s_ifne hz (tgt := 735) rfl dL_law_713 (go_L_law_735 hz hn hs hret (by omega) (by omega) (Go.widen _ _ h1815
    (by omega) (by omega))) (s_aload_n hz rfl dL_law_716 (s_iconst hz rfl dL_law_717 (s_lald hz rfl rfl rfl dL_law_718 (s_iload hz dL_law_719 (s_ifeq hz (tgt := 728) rfl dL_law_721 (s_lconst hz rfl dL_law_728
    (go_L_law_729 hz hn hs hret (by omega) (by omega) (Go.widen _ _ h1815 (by omega) (by omega)))) (s_lconst hz rfl dL_law_724 (s_goto hz (tgt := 729) rfl dL_law_725 (go_L_law_729 hz hn hs hret
    (by omega) (by omega) (Go.widen _ _ h1815 (by omega) (by omega)))))))))))) (s_iconst hz rfl dL_law_709 (hret (ble_of (by omega)) (ble_of (by omega)) dL_law_710)))))))
def wp_L_law_668 (b L : Nat) (xs : Nat → Int32) (K1815 : KT) : KT :=
  i_aload 3 (i_callSH 4 T_L_isOne (i_istore 5 (i_aload 2 (i_aload 0 (i_iload 4 (i_pushI 1 (i_iadd (i_sld b L xs (i_aload 0 (i_iload 4 (i_pushI 2 (i_iadd (i_sld b L xs (i_ifeq (i_pushI 0
    (wp_L_law_695 b L xs K1815)) (i_pushI 1 (wp_L_law_695 b L xs K1815))))))))))))))))
theorem wx_L_law_668 (b L : Nat) (xs : Nat → Int32) (K1815 : KT) (ls : List (Option Value)) (st : List Value) (h : hp_T) : wp_L_law_668 b L xs K1815 ls st h = (i_aload 3 (i_callSH 4 T_L_isOne (i_istore 5 (i_aload 2 (i_aload 0 (i_iload 4 (i_pushI 1 (i_iadd (i_sld b L xs (i_aload 0 (i_iload 4 (i_pushI 2 (i_iadd (i_sld b L xs (i_ifeq (i_pushI 0
    (wp_L_law_695 b L xs K1815)) (i_pushI 1 (wp_L_law_695 b L xs K1815))))))))))))))))) ls st h := rfl
set_option maxRecDepth 20000 in
theorem go_L_law_668 {z : zT} {C S : Nat} {b L : Nat} {xs : Nat → Int32} {nm : String} {K1815 : KT} (hz : Cx z cL_law 7 "PanelryLaw" nm 20 601024 7293034) (hn : NCz z) (hs : ScZ z b L xs) (hret : ∀ {cells slots pc : Nat}, Nat.ble cells 601024 = true → Nat.ble slots 7293034 = true → decode cL_law pc = .ok (.ireturn, 1) → Go z cells slots pc i_lret) (hC : C + 3 ≤ 601024) (hS : S + 19 ≤ 7293034) (h1815 : Go z (C + 3) (S + 19) 1815 K1815) : Go z C S 668 (wp_L_law_668 b L xs K1815) := 
  s_aload_n hz rfl dL_law_668 (s_callSH hz hn ch_L_isOne ⟨w564, w566, w28, by decide, by decide, by decide +kernel⟩ w565 rfl rfl (ble_of (by omega)) (ble_of (by omega)) dL_law_669 (s_istore hz rfl dL_law_672
    (s_aload_n hz rfl dL_law_674 (s_aload_n hz rfl dL_law_675 (s_iload hz dL_law_676 (s_iconst hz rfl dL_law_678 (s_iadd hz dL_law_679 (s_sld hz hs dL_law_680 (s_aload_n hz rfl dL_law_681
    (s_iload hz dL_law_682 (s_iconst hz rfl dL_law_684 (s_iadd hz dL_law_685 (s_sld hz hs dL_law_686 (s_ifeq hz (tgt := 694) rfl dL_law_687 (s_iconst hz rfl dL_law_694 (go_L_law_695 hz hn hs hret
    (by omega) (by omega) (Go.widen _ _ h1815 (by omega) (by omega)))) (s_iconst hz rfl dL_law_690 (s_goto hz (tgt := 695) rfl dL_law_691 (go_L_law_695 hz hn hs hret (by omega) (by omega)
    (Go.widen _ _ h1815 (by omega) (by omega)))))))))))))))))))
def wp_L_law_647 (b L : Nat) (xs : Nat → Int32) (K1815 : KT) : KT :=
  i_aload 1 (i_aload 0 (i_iload 4 (i_pushI 1 (i_iadd (i_sld b L xs (i_aload 0 (i_iload 4 (i_pushI 2 (i_iadd (i_sld b L xs (i_ifeq (i_pushI 0 (wp_L_law_668 b L xs K1815)) (i_pushI 1 (wp_L_law_668 b L xs K1815)))))))))))))
theorem wx_L_law_647 (b L : Nat) (xs : Nat → Int32) (K1815 : KT) (ls : List (Option Value)) (st : List Value) (h : hp_T) : wp_L_law_647 b L xs K1815 ls st h = (i_aload 1 (i_aload 0 (i_iload 4 (i_pushI 1 (i_iadd (i_sld b L xs (i_aload 0 (i_iload 4 (i_pushI 2 (i_iadd (i_sld b L xs (i_ifeq (i_pushI 0 (wp_L_law_668 b L xs K1815)) (i_pushI 1 (wp_L_law_668 b L xs K1815)))))))))))))) ls st h := rfl
set_option maxRecDepth 20000 in
theorem go_L_law_647 {z : zT} {C S : Nat} {b L : Nat} {xs : Nat → Int32} {nm : String} {K1815 : KT} (hz : Cx z cL_law 7 "PanelryLaw" nm 20 601024 7293034) (hn : NCz z) (hs : ScZ z b L xs) (hret : ∀ {cells slots pc : Nat}, Nat.ble cells 601024 = true → Nat.ble slots 7293034 = true → decode cL_law pc = .ok (.ireturn, 1) → Go z cells slots pc i_lret) (hC : C + 3 ≤ 601024) (hS : S + 19 ≤ 7293034) (h1815 : Go z (C + 3) (S + 19) 1815 K1815) : Go z C S 647 (wp_L_law_647 b L xs K1815) := 
  s_aload_n hz rfl dL_law_647 (s_aload_n hz rfl dL_law_648 (s_iload hz dL_law_649 (s_iconst hz rfl dL_law_651 (s_iadd hz dL_law_652 (s_sld hz hs dL_law_653 (s_aload_n hz rfl dL_law_654
    (s_iload hz dL_law_655 (s_iconst hz rfl dL_law_657 (s_iadd hz dL_law_658 (s_sld hz hs dL_law_659 (s_ifeq hz (tgt := 667) rfl dL_law_660 (s_iconst hz rfl dL_law_667 (go_L_law_668 hz hn hs hret
    (by omega) (by omega) (Go.widen _ _ h1815 (by omega) (by omega)))) (s_iconst hz rfl dL_law_663 (s_goto hz (tgt := 668) rfl dL_law_664 (go_L_law_668 hz hn hs hret (by omega) (by omega)
    (Go.widen _ _ h1815 (by omega) (by omega))))))))))))))))
def wp_L_law_791 (b L : Nat) (xs : Nat → Int32) (K1815 : KT) : KT :=
  K1815
theorem wx_L_law_791 (b L : Nat) (xs : Nat → Int32) (K1815 : KT) (ls : List (Option Value)) (st : List Value) (h : hp_T) : wp_L_law_791 b L xs K1815 ls st h = (K1815) ls st h := rfl
set_option maxRecDepth 20000 in
theorem go_L_law_791 {z : zT} {C S : Nat} {b L : Nat} {xs : Nat → Int32} {nm : String} {K1815 : KT} (hz : Cx z cL_law 7 "PanelryLaw" nm 20 601024 7293034) (hn : NCz z) (hs : ScZ z b L xs) (hret : ∀ {cells slots pc : Nat}, Nat.ble cells 601024 = true → Nat.ble slots 7293034 = true → decode cL_law pc = .ok (.ireturn, 1) → Go z cells slots pc i_lret) (hC : C + 0 ≤ 601024) (hS : S + 0 ≤ 7293034) (h1815 : Go z (C + 0) (S + 0) 1815 K1815) : Go z C S 791 (wp_L_law_791 b L xs K1815) := 
  s_goto hz (tgt := 1815) rfl dL_law_791 (Go.widen _ _ h1815 (by omega) (by omega))
def wp_L_law_738 (b L : Nat) (xs : Nat → Int32) (K1815 : KT) : KT :=
  i_aload 1 (i_aload 0 (i_iload 4 (i_pushI 1 (i_iadd (i_sld b L xs (i_aload 3 (i_callSH 3 T_L_mirror (i_istore 5 (i_aload 2 (i_aload 0 (i_iload 4 (i_pushI 1 (i_iadd (i_sld b L xs (i_callV 1 11 T_X9_mirror noX
    (i_istore 6 (i_aload 2 (i_callV 0 11 T_X9_thrown noX (i_iload 5 (i_iceq (i_iload 5 (i_ifne (wp_L_law_791 b L xs K1815) (i_aload 3 (i_pushI 0 (i_lald 180 (i_iload 6 (i_i2l (i_lcmp (i_ifeq
    (wp_L_law_791 b L xs K1815) (i_pushI 0 i_lret)))))))))) (i_pushI 0 i_lret)))))))))))))))))))))
theorem wx_L_law_738 (b L : Nat) (xs : Nat → Int32) (K1815 : KT) (ls : List (Option Value)) (st : List Value) (h : hp_T) : wp_L_law_738 b L xs K1815 ls st h = (i_aload 1 (i_aload 0 (i_iload 4 (i_pushI 1 (i_iadd (i_sld b L xs (i_aload 3 (i_callSH 3 T_L_mirror (i_istore 5 (i_aload 2 (i_aload 0 (i_iload 4 (i_pushI 1 (i_iadd (i_sld b L xs (i_callV 1 11 T_X9_mirror noX
    (i_istore 6 (i_aload 2 (i_callV 0 11 T_X9_thrown noX (i_iload 5 (i_iceq (i_iload 5 (i_ifne (wp_L_law_791 b L xs K1815) (i_aload 3 (i_pushI 0 (i_lald 180 (i_iload 6 (i_i2l (i_lcmp (i_ifeq
    (wp_L_law_791 b L xs K1815) (i_pushI 0 i_lret)))))))))) (i_pushI 0 i_lret)))))))))))))))))))))) ls st h := rfl
set_option maxRecDepth 20000 in
theorem go_L_law_738 {z : zT} {C S : Nat} {b L : Nat} {xs : Nat → Int32} {nm : String} {K1815 : KT} (hz : Cx z cL_law 7 "PanelryLaw" nm 20 601024 7293034) (hn : NCz z) (hs : ScZ z b L xs) (hret : ∀ {cells slots pc : Nat}, Nat.ble cells 601024 = true → Nat.ble slots 7293034 = true → decode cL_law pc = .ok (.ireturn, 1) → Go z cells slots pc i_lret) (hC : C + 423 ≤ 601024) (hS : S + 4912 ≤ 7293034) (h1815 : Go z (C + 423) (S + 4912) 1815 K1815) : Go z C S 738 (wp_L_law_738 b L xs K1815) := 
  s_aload_n hz rfl dL_law_738 (s_aload_n hz rfl dL_law_739 (s_iload hz dL_law_740 (s_iconst hz rfl dL_law_742 (s_iadd hz dL_law_743 (s_sld hz hs dL_law_744 (s_aload_n hz rfl dL_law_745
    (s_callSH hz hn ch_L_mirror ⟨w577, w579, w28, by decide, by decide, by decide +kernel⟩ w578 rfl rfl (ble_of (by omega)) (ble_of (by omega)) dL_law_746 (s_istore hz rfl dL_law_749 (s_aload_n hz rfl dL_law_751
    (s_aload_n hz rfl dL_law_752 (s_iload hz dL_law_753 (s_iconst hz rfl dL_law_755 (s_iadd hz dL_law_756 (s_sld hz hs dL_law_757 (s_callV hz ct_X9_mirror ⟨w1124, w1127, w33, by decide, by decide, by decide +kernel⟩ w1125 w1126 cls10 rfl rfl rfl rfl
    (ble_of (by omega)) (ble_of (by omega)) out_no dL_law_758 (s_istore hz rfl dL_law_761 (s_aload_n hz rfl dL_law_763 (s_callV hz ct_X9_thrown ⟨w1059, w1062, w33, by decide, by decide, by decide +kernel⟩ w1060 w1061 cls10 rfl rfl rfl rfl
    (ble_of (by omega)) (ble_of (by omega)) out_no dL_law_764 (s_iload hz dL_law_767 (s_iceq hz (tgt := 774) rfl dL_law_769 (s_iload hz dL_law_774 (s_ifne hz (tgt := 791) rfl dL_law_776 (go_L_law_791 hz hn hs hret
    (by omega) (by omega) (Go.widen _ _ h1815 (by omega) (by omega))) (s_aload_n hz rfl dL_law_779 (s_iconst hz rfl dL_law_780 (s_lald hz rfl rfl rfl dL_law_781 (s_iload hz dL_law_782 (s_i2l hz dL_law_784
    (s_lcmp hz dL_law_785 (s_ifeq hz (tgt := 791) rfl dL_law_786 (go_L_law_791 hz hn hs hret (by omega) (by omega) (Go.widen _ _ h1815 (by omega) (by omega))) (s_iconst hz rfl dL_law_789
    (hret (ble_of (by omega)) (ble_of (by omega)) dL_law_790))))))))))) (s_iconst hz rfl dL_law_772 (hret (ble_of (by omega)) (ble_of (by omega)) dL_law_773))))))))))))))))))))))
def wp_L_law_835 (b L : Nat) (xs : Nat → Int32) (K1815 : KT) : KT :=
  K1815
theorem wx_L_law_835 (b L : Nat) (xs : Nat → Int32) (K1815 : KT) (ls : List (Option Value)) (st : List Value) (h : hp_T) : wp_L_law_835 b L xs K1815 ls st h = (K1815) ls st h := rfl
set_option maxRecDepth 20000 in
theorem go_L_law_835 {z : zT} {C S : Nat} {b L : Nat} {xs : Nat → Int32} {nm : String} {K1815 : KT} (hz : Cx z cL_law 7 "PanelryLaw" nm 20 601024 7293034) (hn : NCz z) (hs : ScZ z b L xs) (hret : ∀ {cells slots pc : Nat}, Nat.ble cells 601024 = true → Nat.ble slots 7293034 = true → decode cL_law pc = .ok (.ireturn, 1) → Go z cells slots pc i_lret) (hC : C + 0 ≤ 601024) (hS : S + 0 ≤ 7293034) (h1815 : Go z (C + 0) (S + 0) 1815 K1815) : Go z C S 835 (wp_L_law_835 b L xs K1815) := 
  s_goto hz (tgt := 1815) rfl dL_law_835 (Go.widen _ _ h1815 (by omega) (by omega))
def wp_L_law_794 (b L : Nat) (xs : Nat → Int32) (K1815 : KT) : KT :=
  i_aload 1 (i_aload 3 (i_callSH 2 T_L_figure (i_istore 5 (i_aload 2 (i_callV 0 11 T_X9_figure noX (i_istore 6 (i_aload 2 (i_callV 0 11 T_X9_thrown noX (i_iload 5 (i_iceq (i_iload 5 (i_ifne
    (wp_L_law_835 b L xs K1815) (i_aload 3 (i_pushI 0 (i_lald 180 (i_iload 6 (i_i2l (i_lcmp (i_ifeq (wp_L_law_835 b L xs K1815) (i_pushI 0 i_lret)))))))))) (i_pushI 0 i_lret)))))))))))
theorem wx_L_law_794 (b L : Nat) (xs : Nat → Int32) (K1815 : KT) (ls : List (Option Value)) (st : List Value) (h : hp_T) : wp_L_law_794 b L xs K1815 ls st h = (i_aload 1 (i_aload 3 (i_callSH 2 T_L_figure (i_istore 5 (i_aload 2 (i_callV 0 11 T_X9_figure noX (i_istore 6 (i_aload 2 (i_callV 0 11 T_X9_thrown noX (i_iload 5 (i_iceq (i_iload 5 (i_ifne
    (wp_L_law_835 b L xs K1815) (i_aload 3 (i_pushI 0 (i_lald 180 (i_iload 6 (i_i2l (i_lcmp (i_ifeq (wp_L_law_835 b L xs K1815) (i_pushI 0 i_lret)))))))))) (i_pushI 0 i_lret)))))))))))) ls st h := rfl
set_option maxRecDepth 20000 in
theorem go_L_law_794 {z : zT} {C S : Nat} {b L : Nat} {xs : Nat → Int32} {nm : String} {K1815 : KT} (hz : Cx z cL_law 7 "PanelryLaw" nm 20 601024 7293034) (hn : NCz z) (hs : ScZ z b L xs) (hret : ∀ {cells slots pc : Nat}, Nat.ble cells 601024 = true → Nat.ble slots 7293034 = true → decode cL_law pc = .ok (.ireturn, 1) → Go z cells slots pc i_lret) (hC : C + 1 ≤ 601024) (hS : S + 6 ≤ 7293034) (h1815 : Go z (C + 1) (S + 6) 1815 K1815) : Go z C S 794 (wp_L_law_794 b L xs K1815) := 
  s_aload_n hz rfl dL_law_794 (s_aload_n hz rfl dL_law_795 (s_callSH hz hn ch_L_figure ⟨w663, w665, w28, by decide, by decide, by decide +kernel⟩ w664 rfl rfl (ble_of (by omega)) (ble_of
    (by omega)) dL_law_796 (s_istore hz rfl dL_law_799 (s_aload_n hz rfl dL_law_801 (s_callV hz ct_X9_figure ⟨w1128, w1131, w33, by decide, by decide, by decide +kernel⟩ w1129 w1130 cls10 rfl rfl rfl rfl
    (ble_of (by omega)) (ble_of (by omega)) out_no dL_law_802 (s_istore hz rfl dL_law_805 (s_aload_n hz rfl dL_law_807 (s_callV hz ct_X9_thrown ⟨w1059, w1062, w33, by decide, by decide, by decide +kernel⟩ w1060 w1061 cls10 rfl rfl rfl rfl
    (ble_of (by omega)) (ble_of (by omega)) out_no dL_law_808 (s_iload hz dL_law_811 (s_iceq hz (tgt := 818) rfl dL_law_813 (s_iload hz dL_law_818 (s_ifne hz (tgt := 835) rfl dL_law_820 (go_L_law_835 hz hn hs hret
    (by omega) (by omega) (Go.widen _ _ h1815 (by omega) (by omega))) (s_aload_n hz rfl dL_law_823 (s_iconst hz rfl dL_law_824 (s_lald hz rfl rfl rfl dL_law_825 (s_iload hz dL_law_826 (s_i2l hz dL_law_828
    (s_lcmp hz dL_law_829 (s_ifeq hz (tgt := 835) rfl dL_law_830 (go_L_law_835 hz hn hs hret (by omega) (by omega) (Go.widen _ _ h1815 (by omega) (by omega))) (s_iconst hz rfl dL_law_833
    (hret (ble_of (by omega)) (ble_of (by omega)) dL_law_834))))))))))) (s_iconst hz rfl dL_law_816 (hret (ble_of (by omega)) (ble_of (by omega)) dL_law_817))))))))))))
def wp_L_law_963 (b L : Nat) (xs : Nat → Int32) (K1815 : KT) : KT :=
  i_callV 8 11 T_X9_draw noX (i_aload 2 (i_callV 0 11 T_X9_thrown noX (i_iload 5 (i_iceq K1815 (i_pushI 0 i_lret)))))
theorem wx_L_law_963 (b L : Nat) (xs : Nat → Int32) (K1815 : KT) (ls : List (Option Value)) (st : List Value) (h : hp_T) : wp_L_law_963 b L xs K1815 ls st h = (i_callV 8 11 T_X9_draw noX (i_aload 2 (i_callV 0 11 T_X9_thrown noX (i_iload 5 (i_iceq K1815 (i_pushI 0 i_lret)))))) ls st h := rfl
set_option maxRecDepth 20000 in
theorem go_L_law_963 {z : zT} {C S : Nat} {b L : Nat} {xs : Nat → Int32} {nm : String} {K1815 : KT} (hz : Cx z cL_law 7 "PanelryLaw" nm 20 601024 7293034) (hn : NCz z) (hs : ScZ z b L xs) (hret : ∀ {cells slots pc : Nat}, Nat.ble cells 601024 = true → Nat.ble slots 7293034 = true → decode cL_law pc = .ok (.ireturn, 1) → Go z cells slots pc i_lret) (hC : C + 0 ≤ 601024) (hS : S + 0 ≤ 7293034) (h1815 : Go z (C + 0) (S + 0) 1815 K1815) : Go z C S 963 (wp_L_law_963 b L xs K1815) := 
  s_callV hz ct_X9_draw ⟨w1132, w1135, w33, by decide, by decide, by decide +kernel⟩ w1133 w1134 cls10 rfl rfl rfl rfl (ble_of (by omega)) (ble_of (by omega)) out_no dL_law_963 (s_aload_n hz rfl dL_law_966
    (s_callV hz ct_X9_thrown ⟨w1059, w1062, w33, by decide, by decide, by decide +kernel⟩ w1060 w1061 cls10 rfl rfl rfl rfl (ble_of (by omega)) (ble_of (by omega)) out_no dL_law_967 (s_iload hz dL_law_970
    (s_iceq hz (tgt := 977) rfl dL_law_972 (s_goto hz (tgt := 1815) rfl dL_law_977 (Go.widen _ _ h1815 (by omega) (by omega))) (s_iconst hz rfl dL_law_975 (hret (ble_of (by omega)) (ble_of
    (by omega)) dL_law_976))))))
def wp_L_law_898 (b L : Nat) (xs : Nat → Int32) (K1815 : KT) : KT :=
  i_callSH 9 T_L_draw (i_istore 5 (i_aload 2 (i_aload 0 (i_iload 4 (i_pushI 1 (i_iadd (i_sld b L xs (i_aload 0 (i_iload 4 (i_pushI 2 (i_iadd (i_sld b L xs (i_aload 0 (i_iload 4 (i_pushI 3
    (i_iadd (i_sld b L xs (i_aload 0 (i_iload 4 (i_pushI 4 (i_iadd (i_sld b L xs (i_aload 0 (i_iload 4 (i_pushI 5 (i_iadd (i_sld b L xs (i_aload 0 (i_iload 4 (i_pushI 6 (i_iadd (i_sld b L xs
    (i_aload 0 (i_iload 4 (i_pushI 7 (i_iadd (i_sld b L xs (i_aload 0 (i_iload 4 (i_pushI 8 (i_iadd (i_sld b L xs (i_ifeq (i_pushI 0 (wp_L_law_963 b L xs K1815)) (i_pushI 1 (wp_L_law_963 b L xs K1815)))))))))))))))))))))))))))))))))))))))))))))
theorem wx_L_law_898 (b L : Nat) (xs : Nat → Int32) (K1815 : KT) (ls : List (Option Value)) (st : List Value) (h : hp_T) : wp_L_law_898 b L xs K1815 ls st h = (i_callSH 9 T_L_draw (i_istore 5 (i_aload 2 (i_aload 0 (i_iload 4 (i_pushI 1 (i_iadd (i_sld b L xs (i_aload 0 (i_iload 4 (i_pushI 2 (i_iadd (i_sld b L xs (i_aload 0 (i_iload 4 (i_pushI 3
    (i_iadd (i_sld b L xs (i_aload 0 (i_iload 4 (i_pushI 4 (i_iadd (i_sld b L xs (i_aload 0 (i_iload 4 (i_pushI 5 (i_iadd (i_sld b L xs (i_aload 0 (i_iload 4 (i_pushI 6 (i_iadd (i_sld b L xs
    (i_aload 0 (i_iload 4 (i_pushI 7 (i_iadd (i_sld b L xs (i_aload 0 (i_iload 4 (i_pushI 8 (i_iadd (i_sld b L xs (i_ifeq (i_pushI 0 (wp_L_law_963 b L xs K1815)) (i_pushI 1 (wp_L_law_963 b L xs K1815)))))))))))))))))))))))))))))))))))))))))))))) ls st h := rfl
set_option maxRecDepth 20000 in
theorem go_L_law_898 {z : zT} {C S : Nat} {b L : Nat} {xs : Nat → Int32} {nm : String} {K1815 : KT} (hz : Cx z cL_law 7 "PanelryLaw" nm 20 601024 7293034) (hn : NCz z) (hs : ScZ z b L xs) (hret : ∀ {cells slots pc : Nat}, Nat.ble cells 601024 = true → Nat.ble slots 7293034 = true → decode cL_law pc = .ok (.ireturn, 1) → Go z cells slots pc i_lret) (hC : C + 8 ≤ 601024) (hS : S + 43 ≤ 7293034) (h1815 : Go z (C + 8) (S + 43) 1815 K1815) : Go z C S 898 (wp_L_law_898 b L xs K1815) := 
  s_callSH hz hn ch_L_draw ⟨w671, w673, w28, by decide, by decide, by decide +kernel⟩ w672 rfl rfl (ble_of (by omega)) (ble_of (by omega)) dL_law_898 (s_istore hz rfl dL_law_901 (s_aload_n hz rfl dL_law_903
    (s_aload_n hz rfl dL_law_904 (s_iload hz dL_law_905 (s_iconst hz rfl dL_law_907 (s_iadd hz dL_law_908 (s_sld hz hs dL_law_909 (s_aload_n hz rfl dL_law_910 (s_iload hz dL_law_911 (s_iconst hz rfl dL_law_913
    (s_iadd hz dL_law_914 (s_sld hz hs dL_law_915 (s_aload_n hz rfl dL_law_916 (s_iload hz dL_law_917 (s_iconst hz rfl dL_law_919 (s_iadd hz dL_law_920 (s_sld hz hs dL_law_921 (s_aload_n hz rfl dL_law_922
    (s_iload hz dL_law_923 (s_iconst hz rfl dL_law_925 (s_iadd hz dL_law_926 (s_sld hz hs dL_law_927 (s_aload_n hz rfl dL_law_928 (s_iload hz dL_law_929 (s_iconst hz rfl dL_law_931 (s_iadd hz dL_law_932
    (s_sld hz hs dL_law_933 (s_aload_n hz rfl dL_law_934 (s_iload hz dL_law_935 (s_bipush hz rfl dL_law_937 (s_iadd hz dL_law_939 (s_sld hz hs dL_law_940 (s_aload_n hz rfl dL_law_941 (s_iload hz dL_law_942
    (s_bipush hz rfl dL_law_944 (s_iadd hz dL_law_946 (s_sld hz hs dL_law_947 (s_aload_n hz rfl dL_law_948 (s_iload hz dL_law_949 (s_bipush hz rfl dL_law_951 (s_iadd hz dL_law_953 (s_sld hz hs dL_law_954
    (s_ifeq hz (tgt := 962) rfl dL_law_955 (s_iconst hz rfl dL_law_962 (go_L_law_963 hz hn hs hret (by omega) (by omega) (Go.widen _ _ h1815 (by omega) (by omega)))) (s_iconst hz rfl dL_law_958
    (s_goto hz (tgt := 963) rfl dL_law_959 (go_L_law_963 hz hn hs hret (by omega) (by omega) (Go.widen _ _ h1815 (by omega) (by omega))))))))))))))))))))))))))))))))))))))))))))))))
def wp_L_law_838 (b L : Nat) (xs : Nat → Int32) (K1815 : KT) : KT :=
  i_aload 1 (i_aload 0 (i_iload 4 (i_pushI 1 (i_iadd (i_sld b L xs (i_aload 0 (i_iload 4 (i_pushI 2 (i_iadd (i_sld b L xs (i_aload 0 (i_iload 4 (i_pushI 3 (i_iadd (i_sld b L xs (i_aload 0
    (i_iload 4 (i_pushI 4 (i_iadd (i_sld b L xs (i_aload 0 (i_iload 4 (i_pushI 5 (i_iadd (i_sld b L xs (i_aload 0 (i_iload 4 (i_pushI 6 (i_iadd (i_sld b L xs (i_aload 0 (i_iload 4 (i_pushI 7
    (i_iadd (i_sld b L xs (i_aload 0 (i_iload 4 (i_pushI 8 (i_iadd (i_sld b L xs (i_ifeq (i_pushI 0 (wp_L_law_898 b L xs K1815)) (i_pushI 1 (wp_L_law_898 b L xs K1815)))))))))))))))))))))))))))))))))))))))))))
theorem wx_L_law_838 (b L : Nat) (xs : Nat → Int32) (K1815 : KT) (ls : List (Option Value)) (st : List Value) (h : hp_T) : wp_L_law_838 b L xs K1815 ls st h = (i_aload 1 (i_aload 0 (i_iload 4 (i_pushI 1 (i_iadd (i_sld b L xs (i_aload 0 (i_iload 4 (i_pushI 2 (i_iadd (i_sld b L xs (i_aload 0 (i_iload 4 (i_pushI 3 (i_iadd (i_sld b L xs (i_aload 0
    (i_iload 4 (i_pushI 4 (i_iadd (i_sld b L xs (i_aload 0 (i_iload 4 (i_pushI 5 (i_iadd (i_sld b L xs (i_aload 0 (i_iload 4 (i_pushI 6 (i_iadd (i_sld b L xs (i_aload 0 (i_iload 4 (i_pushI 7
    (i_iadd (i_sld b L xs (i_aload 0 (i_iload 4 (i_pushI 8 (i_iadd (i_sld b L xs (i_ifeq (i_pushI 0 (wp_L_law_898 b L xs K1815)) (i_pushI 1 (wp_L_law_898 b L xs K1815)))))))))))))))))))))))))))))))))))))))))))) ls st h := rfl
set_option maxRecDepth 20000 in
theorem go_L_law_838 {z : zT} {C S : Nat} {b L : Nat} {xs : Nat → Int32} {nm : String} {K1815 : KT} (hz : Cx z cL_law 7 "PanelryLaw" nm 20 601024 7293034) (hn : NCz z) (hs : ScZ z b L xs) (hret : ∀ {cells slots pc : Nat}, Nat.ble cells 601024 = true → Nat.ble slots 7293034 = true → decode cL_law pc = .ok (.ireturn, 1) → Go z cells slots pc i_lret) (hC : C + 8 ≤ 601024) (hS : S + 43 ≤ 7293034) (h1815 : Go z (C + 8) (S + 43) 1815 K1815) : Go z C S 838 (wp_L_law_838 b L xs K1815) := 
  s_aload_n hz rfl dL_law_838 (s_aload_n hz rfl dL_law_839 (s_iload hz dL_law_840 (s_iconst hz rfl dL_law_842 (s_iadd hz dL_law_843 (s_sld hz hs dL_law_844 (s_aload_n hz rfl dL_law_845
    (s_iload hz dL_law_846 (s_iconst hz rfl dL_law_848 (s_iadd hz dL_law_849 (s_sld hz hs dL_law_850 (s_aload_n hz rfl dL_law_851 (s_iload hz dL_law_852 (s_iconst hz rfl dL_law_854 (s_iadd hz dL_law_855
    (s_sld hz hs dL_law_856 (s_aload_n hz rfl dL_law_857 (s_iload hz dL_law_858 (s_iconst hz rfl dL_law_860 (s_iadd hz dL_law_861 (s_sld hz hs dL_law_862 (s_aload_n hz rfl dL_law_863 (s_iload hz dL_law_864
    (s_iconst hz rfl dL_law_866 (s_iadd hz dL_law_867 (s_sld hz hs dL_law_868 (s_aload_n hz rfl dL_law_869 (s_iload hz dL_law_870 (s_bipush hz rfl dL_law_872 (s_iadd hz dL_law_874 (s_sld hz hs dL_law_875
    (s_aload_n hz rfl dL_law_876 (s_iload hz dL_law_877 (s_bipush hz rfl dL_law_879 (s_iadd hz dL_law_881 (s_sld hz hs dL_law_882 (s_aload_n hz rfl dL_law_883 (s_iload hz dL_law_884 (s_bipush hz rfl dL_law_886
    (s_iadd hz dL_law_888 (s_sld hz hs dL_law_889 (s_ifeq hz (tgt := 897) rfl dL_law_890 (s_iconst hz rfl dL_law_897 (go_L_law_898 hz hn hs hret (by omega) (by omega) (Go.widen _ _ h1815
    (by omega) (by omega)))) (s_iconst hz rfl dL_law_893 (s_goto hz (tgt := 898) rfl dL_law_894 (go_L_law_898 hz hn hs hret (by omega) (by omega) (Go.widen _ _ h1815 (by omega) (by omega))))))))))))))))))))))))))))))))))))))))))))))
def wp_L_law_1123 (b L : Nat) (xs : Nat → Int32) (K1815 : KT) : KT :=
  K1815
theorem wx_L_law_1123 (b L : Nat) (xs : Nat → Int32) (K1815 : KT) (ls : List (Option Value)) (st : List Value) (h : hp_T) : wp_L_law_1123 b L xs K1815 ls st h = (K1815) ls st h := rfl
set_option maxRecDepth 20000 in
theorem go_L_law_1123 {z : zT} {C S : Nat} {b L : Nat} {xs : Nat → Int32} {nm : String} {K1815 : KT} (hz : Cx z cL_law 7 "PanelryLaw" nm 20 601024 7293034) (hn : NCz z) (hs : ScZ z b L xs) (hret : ∀ {cells slots pc : Nat}, Nat.ble cells 601024 = true → Nat.ble slots 7293034 = true → decode cL_law pc = .ok (.ireturn, 1) → Go z cells slots pc i_lret) (hC : C + 0 ≤ 601024) (hS : S + 0 ≤ 7293034) (h1815 : Go z (C + 0) (S + 0) 1815 K1815) : Go z C S 1123 (wp_L_law_1123 b L xs K1815) := 
  s_goto hz (tgt := 1815) rfl dL_law_1123 (Go.widen _ _ h1815 (by omega) (by omega))
def wp_L_law_980 (b L : Nat) (xs : Nat → Int32) (K1815 : KT) : KT :=
  i_aload 1 (i_aload 0 (i_iload 4 (i_pushI 1 (i_iadd (i_sld b L xs (i_aload 0 (i_iload 4 (i_pushI 2 (i_iadd (i_sld b L xs (i_aload 0 (i_iload 4 (i_pushI 3 (i_iadd (i_sld b L xs (i_aload 0
    (i_iload 4 (i_pushI 4 (i_iadd (i_sld b L xs (i_aload 0 (i_iload 4 (i_pushI 5 (i_iadd (i_sld b L xs (i_aload 0 (i_iload 4 (i_pushI 6 (i_iadd (i_sld b L xs (i_aload 0 (i_iload 4 (i_pushI 7
    (i_iadd (i_sld b L xs (i_aload 0 (i_iload 4 (i_pushI 8 (i_iadd (i_sld b L xs (i_aload 3 (i_callSH 10 T_L_balloon (i_istore 5 (i_aload 2 (i_aload 0 (i_iload 4 (i_pushI 1 (i_iadd (i_sld b L xs
    (i_aload 0 (i_iload 4 (i_pushI 2 (i_iadd (i_sld b L xs (i_aload 0 (i_iload 4 (i_pushI 3 (i_iadd (i_sld b L xs (i_aload 0 (i_iload 4 (i_pushI 4 (i_iadd (i_sld b L xs (i_aload 0 (i_iload 4
    (i_pushI 5 (i_iadd (i_sld b L xs (i_aload 0 (i_iload 4 (i_pushI 6 (i_iadd (i_sld b L xs (i_aload 0 (i_iload 4 (i_pushI 7 (i_iadd (i_sld b L xs (i_aload 0 (i_iload 4 (i_pushI 8 (i_iadd
    (i_sld b L xs (i_callV 8 11 T_X9_balloon noX (i_istore 6 (i_aload 2 (i_callV 0 11 T_X9_thrown noX (i_iload 5 (i_iceq (i_iload 5 (i_ifne (wp_L_law_1123 b L xs K1815) (i_aload 3 (i_pushI 0
    (i_lald 180 (i_iload 6 (i_i2l (i_lcmp (i_ifeq (wp_L_law_1123 b L xs K1815) (i_pushI 0 i_lret)))))))))) (i_pushI 0 i_lret)))))))))))))))))))))))))))))))))))))))))))))))))))))))))))))))))))))))))))))))))))))))))))
theorem wx_L_law_980 (b L : Nat) (xs : Nat → Int32) (K1815 : KT) (ls : List (Option Value)) (st : List Value) (h : hp_T) : wp_L_law_980 b L xs K1815 ls st h = (i_aload 1 (i_aload 0 (i_iload 4 (i_pushI 1 (i_iadd (i_sld b L xs (i_aload 0 (i_iload 4 (i_pushI 2 (i_iadd (i_sld b L xs (i_aload 0 (i_iload 4 (i_pushI 3 (i_iadd (i_sld b L xs (i_aload 0
    (i_iload 4 (i_pushI 4 (i_iadd (i_sld b L xs (i_aload 0 (i_iload 4 (i_pushI 5 (i_iadd (i_sld b L xs (i_aload 0 (i_iload 4 (i_pushI 6 (i_iadd (i_sld b L xs (i_aload 0 (i_iload 4 (i_pushI 7
    (i_iadd (i_sld b L xs (i_aload 0 (i_iload 4 (i_pushI 8 (i_iadd (i_sld b L xs (i_aload 3 (i_callSH 10 T_L_balloon (i_istore 5 (i_aload 2 (i_aload 0 (i_iload 4 (i_pushI 1 (i_iadd (i_sld b L xs
    (i_aload 0 (i_iload 4 (i_pushI 2 (i_iadd (i_sld b L xs (i_aload 0 (i_iload 4 (i_pushI 3 (i_iadd (i_sld b L xs (i_aload 0 (i_iload 4 (i_pushI 4 (i_iadd (i_sld b L xs (i_aload 0 (i_iload 4
    (i_pushI 5 (i_iadd (i_sld b L xs (i_aload 0 (i_iload 4 (i_pushI 6 (i_iadd (i_sld b L xs (i_aload 0 (i_iload 4 (i_pushI 7 (i_iadd (i_sld b L xs (i_aload 0 (i_iload 4 (i_pushI 8 (i_iadd
    (i_sld b L xs (i_callV 8 11 T_X9_balloon noX (i_istore 6 (i_aload 2 (i_callV 0 11 T_X9_thrown noX (i_iload 5 (i_iceq (i_iload 5 (i_ifne (wp_L_law_1123 b L xs K1815) (i_aload 3 (i_pushI 0
    (i_lald 180 (i_iload 6 (i_i2l (i_lcmp (i_ifeq (wp_L_law_1123 b L xs K1815) (i_pushI 0 i_lret)))))))))) (i_pushI 0 i_lret)))))))))))))))))))))))))))))))))))))))))))))))))))))))))))))))))))))))))))))))))))))))))))) ls st h := rfl
set_option maxRecDepth 20000 in
theorem go_L_law_980 {z : zT} {C S : Nat} {b L : Nat} {xs : Nat → Int32} {nm : String} {K1815 : KT} (hz : Cx z cL_law 7 "PanelryLaw" nm 20 601024 7293034) (hn : NCz z) (hs : ScZ z b L xs) (hret : ∀ {cells slots pc : Nat}, Nat.ble cells 601024 = true → Nat.ble slots 7293034 = true → decode cL_law pc = .ok (.ireturn, 1) → Go z cells slots pc i_lret) (hC : C + 12 ≤ 601024) (hS : S + 162 ≤ 7293034) (h1815 : Go z (C + 12) (S + 162) 1815 K1815) : Go z C S 980 (wp_L_law_980 b L xs K1815) := 
  s_aload_n hz rfl dL_law_980 (s_aload_n hz rfl dL_law_981 (s_iload hz dL_law_982 (s_iconst hz rfl dL_law_984 (s_iadd hz dL_law_985 (s_sld hz hs dL_law_986 (s_aload_n hz rfl dL_law_987
    (s_iload hz dL_law_988 (s_iconst hz rfl dL_law_990 (s_iadd hz dL_law_991 (s_sld hz hs dL_law_992 (s_aload_n hz rfl dL_law_993 (s_iload hz dL_law_994 (s_iconst hz rfl dL_law_996 (s_iadd hz dL_law_997
    (s_sld hz hs dL_law_998 (s_aload_n hz rfl dL_law_999 (s_iload hz dL_law_1000 (s_iconst hz rfl dL_law_1002 (s_iadd hz dL_law_1003 (s_sld hz hs dL_law_1004 (s_aload_n hz rfl dL_law_1005
    (s_iload hz dL_law_1006 (s_iconst hz rfl dL_law_1008 (s_iadd hz dL_law_1009 (s_sld hz hs dL_law_1010 (s_aload_n hz rfl dL_law_1011 (s_iload hz dL_law_1012 (s_bipush hz rfl dL_law_1014
    (s_iadd hz dL_law_1016 (s_sld hz hs dL_law_1017 (s_aload_n hz rfl dL_law_1018 (s_iload hz dL_law_1019 (s_bipush hz rfl dL_law_1021 (s_iadd hz dL_law_1023 (s_sld hz hs dL_law_1024 (s_aload_n hz rfl dL_law_1025
    (s_iload hz dL_law_1026 (s_bipush hz rfl dL_law_1028 (s_iadd hz dL_law_1030 (s_sld hz hs dL_law_1031 (s_aload_n hz rfl dL_law_1032 (s_callSH hz hn ch_L_balloon ⟨w695, w697, w28, by decide, by decide, by decide +kernel⟩ w696 rfl rfl
    (ble_of (by omega)) (ble_of (by omega)) dL_law_1033 (s_istore hz rfl dL_law_1036 (s_aload_n hz rfl dL_law_1038 (s_aload_n hz rfl dL_law_1039 (s_iload hz dL_law_1040 (s_iconst hz rfl dL_law_1042
    (s_iadd hz dL_law_1043 (s_sld hz hs dL_law_1044 (s_aload_n hz rfl dL_law_1045 (s_iload hz dL_law_1046 (s_iconst hz rfl dL_law_1048 (s_iadd hz dL_law_1049 (s_sld hz hs dL_law_1050 (s_aload_n hz rfl dL_law_1051
    (s_iload hz dL_law_1052 (s_iconst hz rfl dL_law_1054 (s_iadd hz dL_law_1055 (s_sld hz hs dL_law_1056 (s_aload_n hz rfl dL_law_1057 (s_iload hz dL_law_1058 (s_iconst hz rfl dL_law_1060
    (s_iadd hz dL_law_1061 (s_sld hz hs dL_law_1062 (s_aload_n hz rfl dL_law_1063 (s_iload hz dL_law_1064 (s_iconst hz rfl dL_law_1066 (s_iadd hz dL_law_1067 (s_sld hz hs dL_law_1068 (s_aload_n hz rfl dL_law_1069
    (s_iload hz dL_law_1070 (s_bipush hz rfl dL_law_1072 (s_iadd hz dL_law_1074 (s_sld hz hs dL_law_1075 (s_aload_n hz rfl dL_law_1076 (s_iload hz dL_law_1077 (s_bipush hz rfl dL_law_1079
    (s_iadd hz dL_law_1081 (s_sld hz hs dL_law_1082 (s_aload_n hz rfl dL_law_1083 (s_iload hz dL_law_1084 (s_bipush hz rfl dL_law_1086 (s_iadd hz dL_law_1088 (s_sld hz hs dL_law_1089 (s_callV hz ct_X9_balloon ⟨w1140, w1143, w33, by decide, by decide, by decide +kernel⟩ w1141 w1142 cls10 rfl rfl rfl rfl
    (ble_of (by omega)) (ble_of (by omega)) out_no dL_law_1090 (s_istore hz rfl dL_law_1093 (s_aload_n hz rfl dL_law_1095 (s_callV hz ct_X9_thrown ⟨w1059, w1062, w33, by decide, by decide, by decide +kernel⟩ w1060 w1061 cls10 rfl rfl rfl rfl
    (ble_of (by omega)) (ble_of (by omega)) out_no dL_law_1096 (s_iload hz dL_law_1099 (s_iceq hz (tgt := 1106) rfl dL_law_1101 (s_iload hz dL_law_1106 (s_ifne hz (tgt := 1123) rfl dL_law_1108
    (go_L_law_1123 hz hn hs hret (by omega) (by omega) (Go.widen _ _ h1815 (by omega) (by omega))) (s_aload_n hz rfl dL_law_1111 (s_iconst hz rfl dL_law_1112 (s_lald hz rfl rfl rfl dL_law_1113
    (s_iload hz dL_law_1114 (s_i2l hz dL_law_1116 (s_lcmp hz dL_law_1117 (s_ifeq hz (tgt := 1123) rfl dL_law_1118 (go_L_law_1123 hz hn hs hret (by omega) (by omega) (Go.widen _ _ h1815 (by omega)
    (by omega))) (s_iconst hz rfl dL_law_1121 (hret (ble_of (by omega)) (ble_of (by omega)) dL_law_1122))))))))))) (s_iconst hz rfl dL_law_1104 (hret (ble_of (by omega)) (ble_of (by omega)) dL_law_1105))))))))))))))))))))))))))))))))))))))))))))))))))))))))))))))))))))))))))))))))))))))))))))
def wp_L_law_1126 (b L : Nat) (xs : Nat → Int32) (K1815 : KT) : KT :=
  i_aload 1 (i_aload 0 (i_iload 4 (i_pushI 1 (i_iadd (i_sld b L xs (i_aload 0 (i_iload 4 (i_pushI 2 (i_iadd (i_sld b L xs (i_aload 0 (i_iload 4 (i_pushI 3 (i_iadd (i_sld b L xs (i_aload 0
    (i_iload 4 (i_pushI 4 (i_iadd (i_sld b L xs (i_callSH 5 T_L_move (i_istore 5 (i_aload 2 (i_aload 0 (i_iload 4 (i_pushI 1 (i_iadd (i_sld b L xs (i_aload 0 (i_iload 4 (i_pushI 2 (i_iadd
    (i_sld b L xs (i_aload 0 (i_iload 4 (i_pushI 3 (i_iadd (i_sld b L xs (i_aload 0 (i_iload 4 (i_pushI 4 (i_iadd (i_sld b L xs (i_callV 4 11 T_X9_move noX (i_aload 2 (i_callV 0 11 T_X9_thrown noX
    (i_iload 5 (i_iceq K1815 (i_pushI 0 i_lret)))))))))))))))))))))))))))))))))))))))))))))))))
theorem wx_L_law_1126 (b L : Nat) (xs : Nat → Int32) (K1815 : KT) (ls : List (Option Value)) (st : List Value) (h : hp_T) : wp_L_law_1126 b L xs K1815 ls st h = (i_aload 1 (i_aload 0 (i_iload 4 (i_pushI 1 (i_iadd (i_sld b L xs (i_aload 0 (i_iload 4 (i_pushI 2 (i_iadd (i_sld b L xs (i_aload 0 (i_iload 4 (i_pushI 3 (i_iadd (i_sld b L xs (i_aload 0
    (i_iload 4 (i_pushI 4 (i_iadd (i_sld b L xs (i_callSH 5 T_L_move (i_istore 5 (i_aload 2 (i_aload 0 (i_iload 4 (i_pushI 1 (i_iadd (i_sld b L xs (i_aload 0 (i_iload 4 (i_pushI 2 (i_iadd
    (i_sld b L xs (i_aload 0 (i_iload 4 (i_pushI 3 (i_iadd (i_sld b L xs (i_aload 0 (i_iload 4 (i_pushI 4 (i_iadd (i_sld b L xs (i_callV 4 11 T_X9_move noX (i_aload 2 (i_callV 0 11 T_X9_thrown noX
    (i_iload 5 (i_iceq K1815 (i_pushI 0 i_lret)))))))))))))))))))))))))))))))))))))))))))))))))) ls st h := rfl
set_option maxRecDepth 20000 in
theorem go_L_law_1126 {z : zT} {C S : Nat} {b L : Nat} {xs : Nat → Int32} {nm : String} {K1815 : KT} (hz : Cx z cL_law 7 "PanelryLaw" nm 20 601024 7293034) (hn : NCz z) (hs : ScZ z b L xs) (hret : ∀ {cells slots pc : Nat}, Nat.ble cells 601024 = true → Nat.ble slots 7293034 = true → decode cL_law pc = .ok (.ireturn, 1) → Go z cells slots pc i_lret) (hC : C + 6 ≤ 601024) (hS : S + 34 ≤ 7293034) (h1815 : Go z (C + 6) (S + 34) 1815 K1815) : Go z C S 1126 (wp_L_law_1126 b L xs K1815) := 
  s_aload_n hz rfl dL_law_1126 (s_aload_n hz rfl dL_law_1127 (s_iload hz dL_law_1128 (s_iconst hz rfl dL_law_1130 (s_iadd hz dL_law_1131 (s_sld hz hs dL_law_1132 (s_aload_n hz rfl dL_law_1133
    (s_iload hz dL_law_1134 (s_iconst hz rfl dL_law_1136 (s_iadd hz dL_law_1137 (s_sld hz hs dL_law_1138 (s_aload_n hz rfl dL_law_1139 (s_iload hz dL_law_1140 (s_iconst hz rfl dL_law_1142
    (s_iadd hz dL_law_1143 (s_sld hz hs dL_law_1144 (s_aload_n hz rfl dL_law_1145 (s_iload hz dL_law_1146 (s_iconst hz rfl dL_law_1148 (s_iadd hz dL_law_1149 (s_sld hz hs dL_law_1150 (s_callSH hz hn ch_L_move ⟨w705, w707, w28, by decide, by decide, by decide +kernel⟩ w706 rfl rfl
    (ble_of (by omega)) (ble_of (by omega)) dL_law_1151 (s_istore hz rfl dL_law_1154 (s_aload_n hz rfl dL_law_1156 (s_aload_n hz rfl dL_law_1157 (s_iload hz dL_law_1158 (s_iconst hz rfl dL_law_1160
    (s_iadd hz dL_law_1161 (s_sld hz hs dL_law_1162 (s_aload_n hz rfl dL_law_1163 (s_iload hz dL_law_1164 (s_iconst hz rfl dL_law_1166 (s_iadd hz dL_law_1167 (s_sld hz hs dL_law_1168 (s_aload_n hz rfl dL_law_1169
    (s_iload hz dL_law_1170 (s_iconst hz rfl dL_law_1172 (s_iadd hz dL_law_1173 (s_sld hz hs dL_law_1174 (s_aload_n hz rfl dL_law_1175 (s_iload hz dL_law_1176 (s_iconst hz rfl dL_law_1178
    (s_iadd hz dL_law_1179 (s_sld hz hs dL_law_1180 (s_callV hz ct_X9_move ⟨w1144, w1147, w33, by decide, by decide, by decide +kernel⟩ w1145 w1146 cls10 rfl rfl rfl rfl (ble_of (by omega))
    (ble_of (by omega)) out_no dL_law_1181 (s_aload_n hz rfl dL_law_1184 (s_callV hz ct_X9_thrown ⟨w1059, w1062, w33, by decide, by decide, by decide +kernel⟩ w1060 w1061 cls10 rfl rfl rfl rfl
    (ble_of (by omega)) (ble_of (by omega)) out_no dL_law_1185 (s_iload hz dL_law_1188 (s_iceq hz (tgt := 1195) rfl dL_law_1190 (s_goto hz (tgt := 1815) rfl dL_law_1195 (Go.widen _ _ h1815
    (by omega) (by omega))) (s_iconst hz rfl dL_law_1193 (hret (ble_of (by omega)) (ble_of (by omega)) dL_law_1194))))))))))))))))))))))))))))))))))))))))))))))))))
def wp_L_law_1263 (b L : Nat) (xs : Nat → Int32) (K1815 : KT) : KT :=
  K1815
theorem wx_L_law_1263 (b L : Nat) (xs : Nat → Int32) (K1815 : KT) (ls : List (Option Value)) (st : List Value) (h : hp_T) : wp_L_law_1263 b L xs K1815 ls st h = (K1815) ls st h := rfl
set_option maxRecDepth 20000 in
theorem go_L_law_1263 {z : zT} {C S : Nat} {b L : Nat} {xs : Nat → Int32} {nm : String} {K1815 : KT} (hz : Cx z cL_law 7 "PanelryLaw" nm 20 601024 7293034) (hn : NCz z) (hs : ScZ z b L xs) (hret : ∀ {cells slots pc : Nat}, Nat.ble cells 601024 = true → Nat.ble slots 7293034 = true → decode cL_law pc = .ok (.ireturn, 1) → Go z cells slots pc i_lret) (hC : C + 0 ≤ 601024) (hS : S + 0 ≤ 7293034) (h1815 : Go z (C + 0) (S + 0) 1815 K1815) : Go z C S 1263 (wp_L_law_1263 b L xs K1815) := 
  s_goto hz (tgt := 1815) rfl dL_law_1263 (Go.widen _ _ h1815 (by omega) (by omega))
def wp_L_law_1198 (b L : Nat) (xs : Nat → Int32) (K1815 : KT) : KT :=
  i_aload 1 (i_aload 0 (i_iload 4 (i_pushI 1 (i_iadd (i_sld b L xs (i_aload 0 (i_iload 4 (i_pushI 2 (i_iadd (i_sld b L xs (i_aload 3 (i_callSH 4 T_L_faults (i_istore 5 (i_aload 2 (i_aload 0
    (i_iload 4 (i_pushI 1 (i_iadd (i_sld b L xs (i_aload 0 (i_iload 4 (i_pushI 2 (i_iadd (i_sld b L xs (i_callV 2 11 T_X9_faults noX (i_istore 6 (i_aload 2 (i_callV 0 11 T_X9_thrown noX (i_iload 5
    (i_iceq (i_iload 5 (i_ifne (wp_L_law_1263 b L xs K1815) (i_aload 3 (i_pushI 0 (i_lald 180 (i_iload 6 (i_i2l (i_lcmp (i_ifeq (wp_L_law_1263 b L xs K1815) (i_pushI 0 i_lret)))))))))) (i_pushI 0 i_lret)))))))))))))))))))))))))))))))
theorem wx_L_law_1198 (b L : Nat) (xs : Nat → Int32) (K1815 : KT) (ls : List (Option Value)) (st : List Value) (h : hp_T) : wp_L_law_1198 b L xs K1815 ls st h = (i_aload 1 (i_aload 0 (i_iload 4 (i_pushI 1 (i_iadd (i_sld b L xs (i_aload 0 (i_iload 4 (i_pushI 2 (i_iadd (i_sld b L xs (i_aload 3 (i_callSH 4 T_L_faults (i_istore 5 (i_aload 2 (i_aload 0
    (i_iload 4 (i_pushI 1 (i_iadd (i_sld b L xs (i_aload 0 (i_iload 4 (i_pushI 2 (i_iadd (i_sld b L xs (i_callV 2 11 T_X9_faults noX (i_istore 6 (i_aload 2 (i_callV 0 11 T_X9_thrown noX (i_iload 5
    (i_iceq (i_iload 5 (i_ifne (wp_L_law_1263 b L xs K1815) (i_aload 3 (i_pushI 0 (i_lald 180 (i_iload 6 (i_i2l (i_lcmp (i_ifeq (wp_L_law_1263 b L xs K1815) (i_pushI 0 i_lret)))))))))) (i_pushI 0 i_lret)))))))))))))))))))))))))))))))) ls st h := rfl
set_option maxRecDepth 20000 in
theorem go_L_law_1198 {z : zT} {C S : Nat} {b L : Nat} {xs : Nat → Int32} {nm : String} {K1815 : KT} (hz : Cx z cL_law 7 "PanelryLaw" nm 20 601024 7293034) (hn : NCz z) (hs : ScZ z b L xs) (hret : ∀ {cells slots pc : Nat}, Nat.ble cells 601024 = true → Nat.ble slots 7293034 = true → decode cL_law pc = .ok (.ireturn, 1) → Go z cells slots pc i_lret) (hC : C + 27 ≤ 601024) (hS : S + 114 ≤ 7293034) (h1815 : Go z (C + 27) (S + 114) 1815 K1815) : Go z C S 1198 (wp_L_law_1198 b L xs K1815) := 
  s_aload_n hz rfl dL_law_1198 (s_aload_n hz rfl dL_law_1199 (s_iload hz dL_law_1200 (s_iconst hz rfl dL_law_1202 (s_iadd hz dL_law_1203 (s_sld hz hs dL_law_1204 (s_aload_n hz rfl dL_law_1205
    (s_iload hz dL_law_1206 (s_iconst hz rfl dL_law_1208 (s_iadd hz dL_law_1209 (s_sld hz hs dL_law_1210 (s_aload_n hz rfl dL_law_1211 (s_callSH hz hn ch_L_faults ⟨w716, w718, w28, by decide, by decide, by decide +kernel⟩ w717 rfl rfl
    (ble_of (by omega)) (ble_of (by omega)) dL_law_1212 (s_istore hz rfl dL_law_1215 (s_aload_n hz rfl dL_law_1217 (s_aload_n hz rfl dL_law_1218 (s_iload hz dL_law_1219 (s_iconst hz rfl dL_law_1221
    (s_iadd hz dL_law_1222 (s_sld hz hs dL_law_1223 (s_aload_n hz rfl dL_law_1224 (s_iload hz dL_law_1225 (s_iconst hz rfl dL_law_1227 (s_iadd hz dL_law_1228 (s_sld hz hs dL_law_1229 (s_callV hz ct_X9_faults ⟨w1152, w1155, w33, by decide, by decide, by decide +kernel⟩ w1153 w1154 cls10 rfl rfl rfl rfl
    (ble_of (by omega)) (ble_of (by omega)) out_no dL_law_1230 (s_istore hz rfl dL_law_1233 (s_aload_n hz rfl dL_law_1235 (s_callV hz ct_X9_thrown ⟨w1059, w1062, w33, by decide, by decide, by decide +kernel⟩ w1060 w1061 cls10 rfl rfl rfl rfl
    (ble_of (by omega)) (ble_of (by omega)) out_no dL_law_1236 (s_iload hz dL_law_1239 (s_iceq hz (tgt := 1246) rfl dL_law_1241 (s_iload hz dL_law_1246 (s_ifne hz (tgt := 1263) rfl dL_law_1248
    (go_L_law_1263 hz hn hs hret (by omega) (by omega) (Go.widen _ _ h1815 (by omega) (by omega))) (s_aload_n hz rfl dL_law_1251 (s_iconst hz rfl dL_law_1252 (s_lald hz rfl rfl rfl dL_law_1253
    (s_iload hz dL_law_1254 (s_i2l hz dL_law_1256 (s_lcmp hz dL_law_1257 (s_ifeq hz (tgt := 1263) rfl dL_law_1258 (go_L_law_1263 hz hn hs hret (by omega) (by omega) (Go.widen _ _ h1815 (by omega)
    (by omega))) (s_iconst hz rfl dL_law_1261 (hret (ble_of (by omega)) (ble_of (by omega)) dL_law_1262))))))))))) (s_iconst hz rfl dL_law_1244 (hret (ble_of (by omega)) (ble_of (by omega)) dL_law_1245))))))))))))))))))))))))))))))))
def wp_L_law_1266 (b L : Nat) (xs : Nat → Int32) (K1815 : KT) : KT :=
  i_aload 1 (i_callV 0 10 T_X8_breaks noX (i_aload 2 (i_callV 0 11 T_X9_breaks noX (i_iceq K1815 (i_pushI 0 i_lret)))))
theorem wx_L_law_1266 (b L : Nat) (xs : Nat → Int32) (K1815 : KT) (ls : List (Option Value)) (st : List Value) (h : hp_T) : wp_L_law_1266 b L xs K1815 ls st h = (i_aload 1 (i_callV 0 10 T_X8_breaks noX (i_aload 2 (i_callV 0 11 T_X9_breaks noX (i_iceq K1815 (i_pushI 0 i_lret)))))) ls st h := rfl
set_option maxRecDepth 20000 in
theorem go_L_law_1266 {z : zT} {C S : Nat} {b L : Nat} {xs : Nat → Int32} {nm : String} {K1815 : KT} (hz : Cx z cL_law 7 "PanelryLaw" nm 20 601024 7293034) (hn : NCz z) (hs : ScZ z b L xs) (hret : ∀ {cells slots pc : Nat}, Nat.ble cells 601024 = true → Nat.ble slots 7293034 = true → decode cL_law pc = .ok (.ireturn, 1) → Go z cells slots pc i_lret) (hC : C + 19 ≤ 601024) (hS : S + 129 ≤ 7293034) (h1815 : Go z (C + 19) (S + 129) 1815 K1815) : Go z C S 1266 (wp_L_law_1266 b L xs K1815) := 
  s_aload_n hz rfl dL_law_1266 (s_callV hz ct_X8_breaks ⟨w105, w108, w29, by decide, by decide, by decide +kernel⟩ w106 w107 cls9 rfl rfl rfl rfl (ble_of (by omega)) (ble_of (by omega)) out_no dL_law_1267
    (s_aload_n hz rfl dL_law_1270 (s_callV hz ct_X9_breaks ⟨w1180, w1183, w33, by decide, by decide, by decide +kernel⟩ w1181 w1182 cls10 rfl rfl rfl rfl (ble_of (by omega)) (ble_of (by omega)) out_no dL_law_1271
    (s_iceq hz (tgt := 1815) rfl dL_law_1274 (Go.widen _ _ h1815 (by omega) (by omega)) (s_iconst hz rfl dL_law_1277 (hret (ble_of (by omega)) (ble_of (by omega)) dL_law_1278))))))
def wp_L_law_1384 (b L : Nat) (xs : Nat → Int32) (K1815 : KT) : KT :=
  K1815
theorem wx_L_law_1384 (b L : Nat) (xs : Nat → Int32) (K1815 : KT) (ls : List (Option Value)) (st : List Value) (h : hp_T) : wp_L_law_1384 b L xs K1815 ls st h = (K1815) ls st h := rfl
set_option maxRecDepth 20000 in
theorem go_L_law_1384 {z : zT} {C S : Nat} {b L : Nat} {xs : Nat → Int32} {nm : String} {K1815 : KT} (hz : Cx z cL_law 7 "PanelryLaw" nm 20 601024 7293034) (hn : NCz z) (hs : ScZ z b L xs) (hret : ∀ {cells slots pc : Nat}, Nat.ble cells 601024 = true → Nat.ble slots 7293034 = true → decode cL_law pc = .ok (.ireturn, 1) → Go z cells slots pc i_lret) (hC : C + 0 ≤ 601024) (hS : S + 0 ≤ 7293034) (h1815 : Go z (C + 0) (S + 0) 1815 K1815) : Go z C S 1384 (wp_L_law_1384 b L xs K1815) := 
  s_goto hz (tgt := 1815) rfl dL_law_1384 (Go.widen _ _ h1815 (by omega) (by omega))
def wp_L_law_1351 (b L : Nat) (xs : Nat → Int32) (K1815 : KT) : KT :=
  i_callV 4 11 T_X9_tell noX (i_istore 6 (i_aload 2 (i_callV 0 11 T_X9_thrown noX (i_iload 5 (i_iceq (i_iload 5 (i_ifne (wp_L_law_1384 b L xs K1815) (i_aload 3 (i_pushI 0 (i_lald 180 (i_iload 6
    (i_i2l (i_lcmp (i_ifeq (wp_L_law_1384 b L xs K1815) (i_pushI 0 i_lret)))))))))) (i_pushI 0 i_lret))))))
theorem wx_L_law_1351 (b L : Nat) (xs : Nat → Int32) (K1815 : KT) (ls : List (Option Value)) (st : List Value) (h : hp_T) : wp_L_law_1351 b L xs K1815 ls st h = (i_callV 4 11 T_X9_tell noX (i_istore 6 (i_aload 2 (i_callV 0 11 T_X9_thrown noX (i_iload 5 (i_iceq (i_iload 5 (i_ifne (wp_L_law_1384 b L xs K1815) (i_aload 3 (i_pushI 0 (i_lald 180 (i_iload 6
    (i_i2l (i_lcmp (i_ifeq (wp_L_law_1384 b L xs K1815) (i_pushI 0 i_lret)))))))))) (i_pushI 0 i_lret))))))) ls st h := rfl
set_option maxRecDepth 20000 in
theorem go_L_law_1351 {z : zT} {C S : Nat} {b L : Nat} {xs : Nat → Int32} {nm : String} {K1815 : KT} (hz : Cx z cL_law 7 "PanelryLaw" nm 20 601024 7293034) (hn : NCz z) (hs : ScZ z b L xs) (hret : ∀ {cells slots pc : Nat}, Nat.ble cells 601024 = true → Nat.ble slots 7293034 = true → decode cL_law pc = .ok (.ireturn, 1) → Go z cells slots pc i_lret) (hC : C + 0 ≤ 601024) (hS : S + 0 ≤ 7293034) (h1815 : Go z (C + 0) (S + 0) 1815 K1815) : Go z C S 1351 (wp_L_law_1351 b L xs K1815) := 
  s_callV hz ct_X9_tell ⟨w1184, w1187, w33, by decide, by decide, by decide +kernel⟩ w1185 w1186 cls10 rfl rfl rfl rfl (ble_of (by omega)) (ble_of (by omega)) out_no dL_law_1351 (s_istore hz rfl dL_law_1354
    (s_aload_n hz rfl dL_law_1356 (s_callV hz ct_X9_thrown ⟨w1059, w1062, w33, by decide, by decide, by decide +kernel⟩ w1060 w1061 cls10 rfl rfl rfl rfl (ble_of (by omega)) (ble_of (by omega)) out_no dL_law_1357
    (s_iload hz dL_law_1360 (s_iceq hz (tgt := 1367) rfl dL_law_1362 (s_iload hz dL_law_1367 (s_ifne hz (tgt := 1384) rfl dL_law_1369 (go_L_law_1384 hz hn hs hret (by omega) (by omega) (Go.widen _ _ h1815
    (by omega) (by omega))) (s_aload_n hz rfl dL_law_1372 (s_iconst hz rfl dL_law_1373 (s_lald hz rfl rfl rfl dL_law_1374 (s_iload hz dL_law_1375 (s_i2l hz dL_law_1377 (s_lcmp hz dL_law_1378
    (s_ifeq hz (tgt := 1384) rfl dL_law_1379 (go_L_law_1384 hz hn hs hret (by omega) (by omega) (Go.widen _ _ h1815 (by omega) (by omega))) (s_iconst hz rfl dL_law_1382 (hret (ble_of (by omega))
    (ble_of (by omega)) dL_law_1383))))))))))) (s_iconst hz rfl dL_law_1365 (hret (ble_of (by omega)) (ble_of (by omega)) dL_law_1366)))))))
def wp_L_law_1312 (b L : Nat) (xs : Nat → Int32) (K1815 : KT) : KT :=
  i_aload 3 (i_callSH 6 T_L_tell (i_istore 5 (i_aload 2 (i_aload 0 (i_iload 4 (i_pushI 1 (i_iadd (i_sld b L xs (i_aload 0 (i_iload 4 (i_pushI 2 (i_iadd (i_sld b L xs (i_aload 0 (i_iload 4
    (i_pushI 3 (i_iadd (i_sld b L xs (i_aload 0 (i_iload 4 (i_pushI 4 (i_iadd (i_sld b L xs (i_ifeq (i_pushI 0 (wp_L_law_1351 b L xs K1815)) (i_pushI 1 (wp_L_law_1351 b L xs K1815))))))))))))))))))))))))))
theorem wx_L_law_1312 (b L : Nat) (xs : Nat → Int32) (K1815 : KT) (ls : List (Option Value)) (st : List Value) (h : hp_T) : wp_L_law_1312 b L xs K1815 ls st h = (i_aload 3 (i_callSH 6 T_L_tell (i_istore 5 (i_aload 2 (i_aload 0 (i_iload 4 (i_pushI 1 (i_iadd (i_sld b L xs (i_aload 0 (i_iload 4 (i_pushI 2 (i_iadd (i_sld b L xs (i_aload 0 (i_iload 4
    (i_pushI 3 (i_iadd (i_sld b L xs (i_aload 0 (i_iload 4 (i_pushI 4 (i_iadd (i_sld b L xs (i_ifeq (i_pushI 0 (wp_L_law_1351 b L xs K1815)) (i_pushI 1 (wp_L_law_1351 b L xs K1815))))))))))))))))))))))))))) ls st h := rfl
set_option maxRecDepth 20000 in
theorem go_L_law_1312 {z : zT} {C S : Nat} {b L : Nat} {xs : Nat → Int32} {nm : String} {K1815 : KT} (hz : Cx z cL_law 7 "PanelryLaw" nm 20 601024 7293034) (hn : NCz z) (hs : ScZ z b L xs) (hret : ∀ {cells slots pc : Nat}, Nat.ble cells 601024 = true → Nat.ble slots 7293034 = true → decode cL_law pc = .ok (.ireturn, 1) → Go z cells slots pc i_lret) (hC : C + 5 ≤ 601024) (hS : S + 123 ≤ 7293034) (h1815 : Go z (C + 5) (S + 123) 1815 K1815) : Go z C S 1312 (wp_L_law_1312 b L xs K1815) := 
  s_aload_n hz rfl dL_law_1312 (s_callSH hz hn ch_L_tell ⟨w814, w816, w28, by decide, by decide, by decide +kernel⟩ w815 rfl rfl (ble_of (by omega)) (ble_of (by omega)) dL_law_1313 (s_istore hz rfl dL_law_1316
    (s_aload_n hz rfl dL_law_1318 (s_aload_n hz rfl dL_law_1319 (s_iload hz dL_law_1320 (s_iconst hz rfl dL_law_1322 (s_iadd hz dL_law_1323 (s_sld hz hs dL_law_1324 (s_aload_n hz rfl dL_law_1325
    (s_iload hz dL_law_1326 (s_iconst hz rfl dL_law_1328 (s_iadd hz dL_law_1329 (s_sld hz hs dL_law_1330 (s_aload_n hz rfl dL_law_1331 (s_iload hz dL_law_1332 (s_iconst hz rfl dL_law_1334
    (s_iadd hz dL_law_1335 (s_sld hz hs dL_law_1336 (s_aload_n hz rfl dL_law_1337 (s_iload hz dL_law_1338 (s_iconst hz rfl dL_law_1340 (s_iadd hz dL_law_1341 (s_sld hz hs dL_law_1342 (s_ifeq hz
    (tgt := 1350) rfl dL_law_1343 (s_iconst hz rfl dL_law_1350 (go_L_law_1351 hz hn hs hret (by omega) (by omega) (Go.widen _ _ h1815 (by omega) (by omega)))) (s_iconst hz rfl dL_law_1346
    (s_goto hz (tgt := 1351) rfl dL_law_1347 (go_L_law_1351 hz hn hs hret (by omega) (by omega) (Go.widen _ _ h1815 (by omega) (by omega)))))))))))))))))))))))))))))
def wp_L_law_1279 (b L : Nat) (xs : Nat → Int32) (K1815 : KT) : KT :=
  i_aload 1 (i_aload 0 (i_iload 4 (i_pushI 1 (i_iadd (i_sld b L xs (i_aload 0 (i_iload 4 (i_pushI 2 (i_iadd (i_sld b L xs (i_aload 0 (i_iload 4 (i_pushI 3 (i_iadd (i_sld b L xs (i_aload 0
    (i_iload 4 (i_pushI 4 (i_iadd (i_sld b L xs (i_ifeq (i_pushI 0 (wp_L_law_1312 b L xs K1815)) (i_pushI 1 (wp_L_law_1312 b L xs K1815)))))))))))))))))))))))
theorem wx_L_law_1279 (b L : Nat) (xs : Nat → Int32) (K1815 : KT) (ls : List (Option Value)) (st : List Value) (h : hp_T) : wp_L_law_1279 b L xs K1815 ls st h = (i_aload 1 (i_aload 0 (i_iload 4 (i_pushI 1 (i_iadd (i_sld b L xs (i_aload 0 (i_iload 4 (i_pushI 2 (i_iadd (i_sld b L xs (i_aload 0 (i_iload 4 (i_pushI 3 (i_iadd (i_sld b L xs (i_aload 0
    (i_iload 4 (i_pushI 4 (i_iadd (i_sld b L xs (i_ifeq (i_pushI 0 (wp_L_law_1312 b L xs K1815)) (i_pushI 1 (wp_L_law_1312 b L xs K1815)))))))))))))))))))))))) ls st h := rfl
set_option maxRecDepth 20000 in
theorem go_L_law_1279 {z : zT} {C S : Nat} {b L : Nat} {xs : Nat → Int32} {nm : String} {K1815 : KT} (hz : Cx z cL_law 7 "PanelryLaw" nm 20 601024 7293034) (hn : NCz z) (hs : ScZ z b L xs) (hret : ∀ {cells slots pc : Nat}, Nat.ble cells 601024 = true → Nat.ble slots 7293034 = true → decode cL_law pc = .ok (.ireturn, 1) → Go z cells slots pc i_lret) (hC : C + 5 ≤ 601024) (hS : S + 123 ≤ 7293034) (h1815 : Go z (C + 5) (S + 123) 1815 K1815) : Go z C S 1279 (wp_L_law_1279 b L xs K1815) := 
  s_aload_n hz rfl dL_law_1279 (s_aload_n hz rfl dL_law_1280 (s_iload hz dL_law_1281 (s_iconst hz rfl dL_law_1283 (s_iadd hz dL_law_1284 (s_sld hz hs dL_law_1285 (s_aload_n hz rfl dL_law_1286
    (s_iload hz dL_law_1287 (s_iconst hz rfl dL_law_1289 (s_iadd hz dL_law_1290 (s_sld hz hs dL_law_1291 (s_aload_n hz rfl dL_law_1292 (s_iload hz dL_law_1293 (s_iconst hz rfl dL_law_1295
    (s_iadd hz dL_law_1296 (s_sld hz hs dL_law_1297 (s_aload_n hz rfl dL_law_1298 (s_iload hz dL_law_1299 (s_iconst hz rfl dL_law_1301 (s_iadd hz dL_law_1302 (s_sld hz hs dL_law_1303 (s_ifeq hz
    (tgt := 1311) rfl dL_law_1304 (s_iconst hz rfl dL_law_1311 (go_L_law_1312 hz hn hs hret (by omega) (by omega) (Go.widen _ _ h1815 (by omega) (by omega)))) (s_iconst hz rfl dL_law_1307
    (s_goto hz (tgt := 1312) rfl dL_law_1308 (go_L_law_1312 hz hn hs hret (by omega) (by omega) (Go.widen _ _ h1815 (by omega) (by omega))))))))))))))))))))))))))
def wp_L_law_1464 (b L : Nat) (xs : Nat → Int32) (K1815 : KT) : KT :=
  K1815
theorem wx_L_law_1464 (b L : Nat) (xs : Nat → Int32) (K1815 : KT) (ls : List (Option Value)) (st : List Value) (h : hp_T) : wp_L_law_1464 b L xs K1815 ls st h = (K1815) ls st h := rfl
set_option maxRecDepth 20000 in
theorem go_L_law_1464 {z : zT} {C S : Nat} {b L : Nat} {xs : Nat → Int32} {nm : String} {K1815 : KT} (hz : Cx z cL_law 7 "PanelryLaw" nm 20 601024 7293034) (hn : NCz z) (hs : ScZ z b L xs) (hret : ∀ {cells slots pc : Nat}, Nat.ble cells 601024 = true → Nat.ble slots 7293034 = true → decode cL_law pc = .ok (.ireturn, 1) → Go z cells slots pc i_lret) (hC : C + 0 ≤ 601024) (hS : S + 0 ≤ 7293034) (h1815 : Go z (C + 0) (S + 0) 1815 K1815) : Go z C S 1464 (wp_L_law_1464 b L xs K1815) := 
  s_goto hz (tgt := 1815) rfl dL_law_1464 (Go.widen _ _ h1815 (by omega) (by omega))
def wp_L_law_1387 (b L : Nat) (xs : Nat → Int32) (K1815 : KT) : KT :=
  i_aload 1 (i_aload 0 (i_iload 4 (i_pushI 1 (i_iadd (i_sld b L xs (i_aload 0 (i_iload 4 (i_pushI 2 (i_iadd (i_sld b L xs (i_aload 0 (i_iload 4 (i_pushI 3 (i_iadd (i_sld b L xs (i_aload 3
    (i_callSH 5 T_L_known (i_istore 5 (i_aload 2 (i_aload 0 (i_iload 4 (i_pushI 1 (i_iadd (i_sld b L xs (i_aload 0 (i_iload 4 (i_pushI 2 (i_iadd (i_sld b L xs (i_aload 0 (i_iload 4 (i_pushI 3
    (i_iadd (i_sld b L xs (i_callV 3 11 T_X9_known noX (i_istore 6 (i_aload 2 (i_callV 0 11 T_X9_thrown noX (i_iload 5 (i_iceq (i_iload 5 (i_ifne (wp_L_law_1464 b L xs K1815) (i_aload 3 (i_pushI 0
    (i_lald 180 (i_iload 6 (i_i2l (i_lcmp (i_ifeq (wp_L_law_1464 b L xs K1815) (i_pushI 0 i_lret)))))))))) (i_pushI 0 i_lret)))))))))))))))))))))))))))))))))))))))))
theorem wx_L_law_1387 (b L : Nat) (xs : Nat → Int32) (K1815 : KT) (ls : List (Option Value)) (st : List Value) (h : hp_T) : wp_L_law_1387 b L xs K1815 ls st h = (i_aload 1 (i_aload 0 (i_iload 4 (i_pushI 1 (i_iadd (i_sld b L xs (i_aload 0 (i_iload 4 (i_pushI 2 (i_iadd (i_sld b L xs (i_aload 0 (i_iload 4 (i_pushI 3 (i_iadd (i_sld b L xs (i_aload 3
    (i_callSH 5 T_L_known (i_istore 5 (i_aload 2 (i_aload 0 (i_iload 4 (i_pushI 1 (i_iadd (i_sld b L xs (i_aload 0 (i_iload 4 (i_pushI 2 (i_iadd (i_sld b L xs (i_aload 0 (i_iload 4 (i_pushI 3
    (i_iadd (i_sld b L xs (i_callV 3 11 T_X9_known noX (i_istore 6 (i_aload 2 (i_callV 0 11 T_X9_thrown noX (i_iload 5 (i_iceq (i_iload 5 (i_ifne (wp_L_law_1464 b L xs K1815) (i_aload 3 (i_pushI 0
    (i_lald 180 (i_iload 6 (i_i2l (i_lcmp (i_ifeq (wp_L_law_1464 b L xs K1815) (i_pushI 0 i_lret)))))))))) (i_pushI 0 i_lret)))))))))))))))))))))))))))))))))))))))))) ls st h := rfl
set_option maxRecDepth 20000 in
theorem go_L_law_1387 {z : zT} {C S : Nat} {b L : Nat} {xs : Nat → Int32} {nm : String} {K1815 : KT} (hz : Cx z cL_law 7 "PanelryLaw" nm 20 601024 7293034) (hn : NCz z) (hs : ScZ z b L xs) (hret : ∀ {cells slots pc : Nat}, Nat.ble cells 601024 = true → Nat.ble slots 7293034 = true → decode cL_law pc = .ok (.ireturn, 1) → Go z cells slots pc i_lret) (hC : C + 3 ≤ 601024) (hS : S + 18 ≤ 7293034) (h1815 : Go z (C + 3) (S + 18) 1815 K1815) : Go z C S 1387 (wp_L_law_1387 b L xs K1815) := 
  s_aload_n hz rfl dL_law_1387 (s_aload_n hz rfl dL_law_1388 (s_iload hz dL_law_1389 (s_iconst hz rfl dL_law_1391 (s_iadd hz dL_law_1392 (s_sld hz hs dL_law_1393 (s_aload_n hz rfl dL_law_1394
    (s_iload hz dL_law_1395 (s_iconst hz rfl dL_law_1397 (s_iadd hz dL_law_1398 (s_sld hz hs dL_law_1399 (s_aload_n hz rfl dL_law_1400 (s_iload hz dL_law_1401 (s_iconst hz rfl dL_law_1403
    (s_iadd hz dL_law_1404 (s_sld hz hs dL_law_1405 (s_aload_n hz rfl dL_law_1406 (s_callSH hz hn ch_L_known ⟨w850, w852, w28, by decide, by decide, by decide +kernel⟩ w851 rfl rfl (ble_of
    (by omega)) (ble_of (by omega)) dL_law_1407 (s_istore hz rfl dL_law_1410 (s_aload_n hz rfl dL_law_1412 (s_aload_n hz rfl dL_law_1413 (s_iload hz dL_law_1414 (s_iconst hz rfl dL_law_1416
    (s_iadd hz dL_law_1417 (s_sld hz hs dL_law_1418 (s_aload_n hz rfl dL_law_1419 (s_iload hz dL_law_1420 (s_iconst hz rfl dL_law_1422 (s_iadd hz dL_law_1423 (s_sld hz hs dL_law_1424 (s_aload_n hz rfl dL_law_1425
    (s_iload hz dL_law_1426 (s_iconst hz rfl dL_law_1428 (s_iadd hz dL_law_1429 (s_sld hz hs dL_law_1430 (s_callV hz ct_X9_known ⟨w1188, w1191, w33, by decide, by decide, by decide +kernel⟩ w1189 w1190 cls10 rfl rfl rfl rfl
    (ble_of (by omega)) (ble_of (by omega)) out_no dL_law_1431 (s_istore hz rfl dL_law_1434 (s_aload_n hz rfl dL_law_1436 (s_callV hz ct_X9_thrown ⟨w1059, w1062, w33, by decide, by decide, by decide +kernel⟩ w1060 w1061 cls10 rfl rfl rfl rfl
    (ble_of (by omega)) (ble_of (by omega)) out_no dL_law_1437 (s_iload hz dL_law_1440 (s_iceq hz (tgt := 1447) rfl dL_law_1442 (s_iload hz dL_law_1447 (s_ifne hz (tgt := 1464) rfl dL_law_1449
    (go_L_law_1464 hz hn hs hret (by omega) (by omega) (Go.widen _ _ h1815 (by omega) (by omega))) (s_aload_n hz rfl dL_law_1452 (s_iconst hz rfl dL_law_1453 (s_lald hz rfl rfl rfl dL_law_1454
    (s_iload hz dL_law_1455 (s_i2l hz dL_law_1457 (s_lcmp hz dL_law_1458 (s_ifeq hz (tgt := 1464) rfl dL_law_1459 (go_L_law_1464 hz hn hs hret (by omega) (by omega) (Go.widen _ _ h1815 (by omega)
    (by omega))) (s_iconst hz rfl dL_law_1462 (hret (ble_of (by omega)) (ble_of (by omega)) dL_law_1463))))))))))) (s_iconst hz rfl dL_law_1445 (hret (ble_of (by omega)) (ble_of (by omega)) dL_law_1446))))))))))))))))))))))))))))))))))))))))))
def wp_L_law_1520 (b L : Nat) (xs : Nat → Int32) (K1815 : KT) : KT :=
  K1815
theorem wx_L_law_1520 (b L : Nat) (xs : Nat → Int32) (K1815 : KT) (ls : List (Option Value)) (st : List Value) (h : hp_T) : wp_L_law_1520 b L xs K1815 ls st h = (K1815) ls st h := rfl
set_option maxRecDepth 20000 in
theorem go_L_law_1520 {z : zT} {C S : Nat} {b L : Nat} {xs : Nat → Int32} {nm : String} {K1815 : KT} (hz : Cx z cL_law 7 "PanelryLaw" nm 20 601024 7293034) (hn : NCz z) (hs : ScZ z b L xs) (hret : ∀ {cells slots pc : Nat}, Nat.ble cells 601024 = true → Nat.ble slots 7293034 = true → decode cL_law pc = .ok (.ireturn, 1) → Go z cells slots pc i_lret) (hC : C + 0 ≤ 601024) (hS : S + 0 ≤ 7293034) (h1815 : Go z (C + 0) (S + 0) 1815 K1815) : Go z C S 1520 (wp_L_law_1520 b L xs K1815) := 
  s_goto hz (tgt := 1815) rfl dL_law_1520 (Go.widen _ _ h1815 (by omega) (by omega))
def wp_L_law_1467 (b L : Nat) (xs : Nat → Int32) (K1815 : KT) : KT :=
  i_aload 1 (i_aload 0 (i_iload 4 (i_pushI 1 (i_iadd (i_sld b L xs (i_aload 3 (i_callSH 3 T_L_contradictions (i_istore 5 (i_aload 2 (i_aload 0 (i_iload 4 (i_pushI 1 (i_iadd (i_sld b L xs
    (i_callV 1 11 T_X9_contradictions noX (i_istore 6 (i_aload 2 (i_callV 0 11 T_X9_thrown noX (i_iload 5 (i_iceq (i_iload 5 (i_ifne (wp_L_law_1520 b L xs K1815) (i_aload 3 (i_pushI 0 (i_lald 180
    (i_iload 6 (i_i2l (i_lcmp (i_ifeq (wp_L_law_1520 b L xs K1815) (i_pushI 0 i_lret)))))))))) (i_pushI 0 i_lret)))))))))))))))))))))
theorem wx_L_law_1467 (b L : Nat) (xs : Nat → Int32) (K1815 : KT) (ls : List (Option Value)) (st : List Value) (h : hp_T) : wp_L_law_1467 b L xs K1815 ls st h = (i_aload 1 (i_aload 0 (i_iload 4 (i_pushI 1 (i_iadd (i_sld b L xs (i_aload 3 (i_callSH 3 T_L_contradictions (i_istore 5 (i_aload 2 (i_aload 0 (i_iload 4 (i_pushI 1 (i_iadd (i_sld b L xs
    (i_callV 1 11 T_X9_contradictions noX (i_istore 6 (i_aload 2 (i_callV 0 11 T_X9_thrown noX (i_iload 5 (i_iceq (i_iload 5 (i_ifne (wp_L_law_1520 b L xs K1815) (i_aload 3 (i_pushI 0 (i_lald 180
    (i_iload 6 (i_i2l (i_lcmp (i_ifeq (wp_L_law_1520 b L xs K1815) (i_pushI 0 i_lret)))))))))) (i_pushI 0 i_lret)))))))))))))))))))))) ls st h := rfl
set_option maxRecDepth 20000 in
theorem go_L_law_1467 {z : zT} {C S : Nat} {b L : Nat} {xs : Nat → Int32} {nm : String} {K1815 : KT} (hz : Cx z cL_law 7 "PanelryLaw" nm 20 601024 7293034) (hn : NCz z) (hs : ScZ z b L xs) (hret : ∀ {cells slots pc : Nat}, Nat.ble cells 601024 = true → Nat.ble slots 7293034 = true → decode cL_law pc = .ok (.ireturn, 1) → Go z cells slots pc i_lret) (hC : C + 1 ≤ 601024) (hS : S + 6 ≤ 7293034) (h1815 : Go z (C + 1) (S + 6) 1815 K1815) : Go z C S 1467 (wp_L_law_1467 b L xs K1815) := 
  s_aload_n hz rfl dL_law_1467 (s_aload_n hz rfl dL_law_1468 (s_iload hz dL_law_1469 (s_iconst hz rfl dL_law_1471 (s_iadd hz dL_law_1472 (s_sld hz hs dL_law_1473 (s_aload_n hz rfl dL_law_1474
    (s_callSH hz hn ch_L_contradictions ⟨w865, w867, w28, by decide, by decide, by decide +kernel⟩ w866 rfl rfl (ble_of (by omega)) (ble_of (by omega)) dL_law_1475 (s_istore hz rfl dL_law_1478
    (s_aload_n hz rfl dL_law_1480 (s_aload_n hz rfl dL_law_1481 (s_iload hz dL_law_1482 (s_iconst hz rfl dL_law_1484 (s_iadd hz dL_law_1485 (s_sld hz hs dL_law_1486 (s_callV hz ct_X9_contradictions ⟨w1192, w1195, w33, by decide, by decide, by decide +kernel⟩ w1193 w1194 cls10 rfl rfl rfl rfl
    (ble_of (by omega)) (ble_of (by omega)) out_no dL_law_1487 (s_istore hz rfl dL_law_1490 (s_aload_n hz rfl dL_law_1492 (s_callV hz ct_X9_thrown ⟨w1059, w1062, w33, by decide, by decide, by decide +kernel⟩ w1060 w1061 cls10 rfl rfl rfl rfl
    (ble_of (by omega)) (ble_of (by omega)) out_no dL_law_1493 (s_iload hz dL_law_1496 (s_iceq hz (tgt := 1503) rfl dL_law_1498 (s_iload hz dL_law_1503 (s_ifne hz (tgt := 1520) rfl dL_law_1505
    (go_L_law_1520 hz hn hs hret (by omega) (by omega) (Go.widen _ _ h1815 (by omega) (by omega))) (s_aload_n hz rfl dL_law_1508 (s_iconst hz rfl dL_law_1509 (s_lald hz rfl rfl rfl dL_law_1510
    (s_iload hz dL_law_1511 (s_i2l hz dL_law_1513 (s_lcmp hz dL_law_1514 (s_ifeq hz (tgt := 1520) rfl dL_law_1515 (go_L_law_1520 hz hn hs hret (by omega) (by omega) (Go.widen _ _ h1815 (by omega)
    (by omega))) (s_iconst hz rfl dL_law_1518 (hret (ble_of (by omega)) (ble_of (by omega)) dL_law_1519))))))))))) (s_iconst hz rfl dL_law_1501 (hret (ble_of (by omega)) (ble_of (by omega)) dL_law_1502))))))))))))))))))))))
def wp_L_law_1576 (b L : Nat) (xs : Nat → Int32) (K1815 : KT) : KT :=
  K1815
theorem wx_L_law_1576 (b L : Nat) (xs : Nat → Int32) (K1815 : KT) (ls : List (Option Value)) (st : List Value) (h : hp_T) : wp_L_law_1576 b L xs K1815 ls st h = (K1815) ls st h := rfl
set_option maxRecDepth 20000 in
theorem go_L_law_1576 {z : zT} {C S : Nat} {b L : Nat} {xs : Nat → Int32} {nm : String} {K1815 : KT} (hz : Cx z cL_law 7 "PanelryLaw" nm 20 601024 7293034) (hn : NCz z) (hs : ScZ z b L xs) (hret : ∀ {cells slots pc : Nat}, Nat.ble cells 601024 = true → Nat.ble slots 7293034 = true → decode cL_law pc = .ok (.ireturn, 1) → Go z cells slots pc i_lret) (hC : C + 0 ≤ 601024) (hS : S + 0 ≤ 7293034) (h1815 : Go z (C + 0) (S + 0) 1815 K1815) : Go z C S 1576 (wp_L_law_1576 b L xs K1815) := 
  s_goto hz (tgt := 1815) rfl dL_law_1576 (Go.widen _ _ h1815 (by omega) (by omega))
def wp_L_law_1523 (b L : Nat) (xs : Nat → Int32) (K1815 : KT) : KT :=
  i_aload 1 (i_aload 0 (i_iload 4 (i_pushI 1 (i_iadd (i_sld b L xs (i_aload 3 (i_callSH 3 T_L_workers (i_istore 5 (i_aload 2 (i_aload 0 (i_iload 4 (i_pushI 1 (i_iadd (i_sld b L xs (i_callV 1 11 T_X9_workers noX
    (i_istore 6 (i_aload 2 (i_callV 0 11 T_X9_thrown noX (i_iload 5 (i_iceq (i_iload 5 (i_ifne (wp_L_law_1576 b L xs K1815) (i_aload 3 (i_pushI 0 (i_lald 180 (i_iload 6 (i_i2l (i_lcmp (i_ifeq
    (wp_L_law_1576 b L xs K1815) (i_pushI 0 i_lret)))))))))) (i_pushI 0 i_lret)))))))))))))))))))))
theorem wx_L_law_1523 (b L : Nat) (xs : Nat → Int32) (K1815 : KT) (ls : List (Option Value)) (st : List Value) (h : hp_T) : wp_L_law_1523 b L xs K1815 ls st h = (i_aload 1 (i_aload 0 (i_iload 4 (i_pushI 1 (i_iadd (i_sld b L xs (i_aload 3 (i_callSH 3 T_L_workers (i_istore 5 (i_aload 2 (i_aload 0 (i_iload 4 (i_pushI 1 (i_iadd (i_sld b L xs (i_callV 1 11 T_X9_workers noX
    (i_istore 6 (i_aload 2 (i_callV 0 11 T_X9_thrown noX (i_iload 5 (i_iceq (i_iload 5 (i_ifne (wp_L_law_1576 b L xs K1815) (i_aload 3 (i_pushI 0 (i_lald 180 (i_iload 6 (i_i2l (i_lcmp (i_ifeq
    (wp_L_law_1576 b L xs K1815) (i_pushI 0 i_lret)))))))))) (i_pushI 0 i_lret)))))))))))))))))))))) ls st h := rfl
set_option maxRecDepth 20000 in
theorem go_L_law_1523 {z : zT} {C S : Nat} {b L : Nat} {xs : Nat → Int32} {nm : String} {K1815 : KT} (hz : Cx z cL_law 7 "PanelryLaw" nm 20 601024 7293034) (hn : NCz z) (hs : ScZ z b L xs) (hret : ∀ {cells slots pc : Nat}, Nat.ble cells 601024 = true → Nat.ble slots 7293034 = true → decode cL_law pc = .ok (.ireturn, 1) → Go z cells slots pc i_lret) (hC : C + 1 ≤ 601024) (hS : S + 6 ≤ 7293034) (h1815 : Go z (C + 1) (S + 6) 1815 K1815) : Go z C S 1523 (wp_L_law_1523 b L xs K1815) := 
  s_aload_n hz rfl dL_law_1523 (s_aload_n hz rfl dL_law_1524 (s_iload hz dL_law_1525 (s_iconst hz rfl dL_law_1527 (s_iadd hz dL_law_1528 (s_sld hz hs dL_law_1529 (s_aload_n hz rfl dL_law_1530
    (s_callSH hz hn ch_L_workers ⟨w876, w878, w28, by decide, by decide, by decide +kernel⟩ w877 rfl rfl (ble_of (by omega)) (ble_of (by omega)) dL_law_1531 (s_istore hz rfl dL_law_1534 (s_aload_n hz rfl dL_law_1536
    (s_aload_n hz rfl dL_law_1537 (s_iload hz dL_law_1538 (s_iconst hz rfl dL_law_1540 (s_iadd hz dL_law_1541 (s_sld hz hs dL_law_1542 (s_callV hz ct_X9_workers ⟨w1196, w1199, w33, by decide, by decide, by decide +kernel⟩ w1197 w1198 cls10 rfl rfl rfl rfl
    (ble_of (by omega)) (ble_of (by omega)) out_no dL_law_1543 (s_istore hz rfl dL_law_1546 (s_aload_n hz rfl dL_law_1548 (s_callV hz ct_X9_thrown ⟨w1059, w1062, w33, by decide, by decide, by decide +kernel⟩ w1060 w1061 cls10 rfl rfl rfl rfl
    (ble_of (by omega)) (ble_of (by omega)) out_no dL_law_1549 (s_iload hz dL_law_1552 (s_iceq hz (tgt := 1559) rfl dL_law_1554 (s_iload hz dL_law_1559 (s_ifne hz (tgt := 1576) rfl dL_law_1561
    (go_L_law_1576 hz hn hs hret (by omega) (by omega) (Go.widen _ _ h1815 (by omega) (by omega))) (s_aload_n hz rfl dL_law_1564 (s_iconst hz rfl dL_law_1565 (s_lald hz rfl rfl rfl dL_law_1566
    (s_iload hz dL_law_1567 (s_i2l hz dL_law_1569 (s_lcmp hz dL_law_1570 (s_ifeq hz (tgt := 1576) rfl dL_law_1571 (go_L_law_1576 hz hn hs hret (by omega) (by omega) (Go.widen _ _ h1815 (by omega)
    (by omega))) (s_iconst hz rfl dL_law_1574 (hret (ble_of (by omega)) (ble_of (by omega)) dL_law_1575))))))))))) (s_iconst hz rfl dL_law_1557 (hret (ble_of (by omega)) (ble_of (by omega)) dL_law_1558))))))))))))))))))))))
def wp_L_law_1632 (b L : Nat) (xs : Nat → Int32) (K1815 : KT) : KT :=
  K1815
theorem wx_L_law_1632 (b L : Nat) (xs : Nat → Int32) (K1815 : KT) (ls : List (Option Value)) (st : List Value) (h : hp_T) : wp_L_law_1632 b L xs K1815 ls st h = (K1815) ls st h := rfl
set_option maxRecDepth 20000 in
theorem go_L_law_1632 {z : zT} {C S : Nat} {b L : Nat} {xs : Nat → Int32} {nm : String} {K1815 : KT} (hz : Cx z cL_law 7 "PanelryLaw" nm 20 601024 7293034) (hn : NCz z) (hs : ScZ z b L xs) (hret : ∀ {cells slots pc : Nat}, Nat.ble cells 601024 = true → Nat.ble slots 7293034 = true → decode cL_law pc = .ok (.ireturn, 1) → Go z cells slots pc i_lret) (hC : C + 0 ≤ 601024) (hS : S + 0 ≤ 7293034) (h1815 : Go z (C + 0) (S + 0) 1815 K1815) : Go z C S 1632 (wp_L_law_1632 b L xs K1815) := 
  s_goto hz (tgt := 1815) rfl dL_law_1632 (Go.widen _ _ h1815 (by omega) (by omega))
def wp_L_law_1579 (b L : Nat) (xs : Nat → Int32) (K1815 : KT) : KT :=
  i_aload 1 (i_aload 0 (i_iload 4 (i_pushI 1 (i_iadd (i_sld b L xs (i_aload 3 (i_callSH 3 T_L_pass (i_istore 5 (i_aload 2 (i_aload 0 (i_iload 4 (i_pushI 1 (i_iadd (i_sld b L xs (i_callV 1 11 T_X9_pass noX
    (i_istore 6 (i_aload 2 (i_callV 0 11 T_X9_thrown noX (i_iload 5 (i_iceq (i_iload 5 (i_ifne (wp_L_law_1632 b L xs K1815) (i_aload 3 (i_pushI 0 (i_lald 180 (i_iload 6 (i_i2l (i_lcmp (i_ifeq
    (wp_L_law_1632 b L xs K1815) (i_pushI 0 i_lret)))))))))) (i_pushI 0 i_lret)))))))))))))))))))))
theorem wx_L_law_1579 (b L : Nat) (xs : Nat → Int32) (K1815 : KT) (ls : List (Option Value)) (st : List Value) (h : hp_T) : wp_L_law_1579 b L xs K1815 ls st h = (i_aload 1 (i_aload 0 (i_iload 4 (i_pushI 1 (i_iadd (i_sld b L xs (i_aload 3 (i_callSH 3 T_L_pass (i_istore 5 (i_aload 2 (i_aload 0 (i_iload 4 (i_pushI 1 (i_iadd (i_sld b L xs (i_callV 1 11 T_X9_pass noX
    (i_istore 6 (i_aload 2 (i_callV 0 11 T_X9_thrown noX (i_iload 5 (i_iceq (i_iload 5 (i_ifne (wp_L_law_1632 b L xs K1815) (i_aload 3 (i_pushI 0 (i_lald 180 (i_iload 6 (i_i2l (i_lcmp (i_ifeq
    (wp_L_law_1632 b L xs K1815) (i_pushI 0 i_lret)))))))))) (i_pushI 0 i_lret)))))))))))))))))))))) ls st h := rfl
set_option maxRecDepth 20000 in
theorem go_L_law_1579 {z : zT} {C S : Nat} {b L : Nat} {xs : Nat → Int32} {nm : String} {K1815 : KT} (hz : Cx z cL_law 7 "PanelryLaw" nm 20 601024 7293034) (hn : NCz z) (hs : ScZ z b L xs) (hret : ∀ {cells slots pc : Nat}, Nat.ble cells 601024 = true → Nat.ble slots 7293034 = true → decode cL_law pc = .ok (.ireturn, 1) → Go z cells slots pc i_lret) (hC : C + 2 ≤ 601024) (hS : S + 12 ≤ 7293034) (h1815 : Go z (C + 2) (S + 12) 1815 K1815) : Go z C S 1579 (wp_L_law_1579 b L xs K1815) := 
  s_aload_n hz rfl dL_law_1579 (s_aload_n hz rfl dL_law_1580 (s_iload hz dL_law_1581 (s_iconst hz rfl dL_law_1583 (s_iadd hz dL_law_1584 (s_sld hz hs dL_law_1585 (s_aload_n hz rfl dL_law_1586
    (s_callSH hz hn ch_L_pass ⟨w883, w885, w28, by decide, by decide, by decide +kernel⟩ w884 rfl rfl (ble_of (by omega)) (ble_of (by omega)) dL_law_1587 (s_istore hz rfl dL_law_1590 (s_aload_n hz rfl dL_law_1592
    (s_aload_n hz rfl dL_law_1593 (s_iload hz dL_law_1594 (s_iconst hz rfl dL_law_1596 (s_iadd hz dL_law_1597 (s_sld hz hs dL_law_1598 (s_callV hz ct_X9_pass ⟨w1200, w1203, w33, by decide, by decide, by decide +kernel⟩ w1201 w1202 cls10 rfl rfl rfl rfl
    (ble_of (by omega)) (ble_of (by omega)) out_no dL_law_1599 (s_istore hz rfl dL_law_1602 (s_aload_n hz rfl dL_law_1604 (s_callV hz ct_X9_thrown ⟨w1059, w1062, w33, by decide, by decide, by decide +kernel⟩ w1060 w1061 cls10 rfl rfl rfl rfl
    (ble_of (by omega)) (ble_of (by omega)) out_no dL_law_1605 (s_iload hz dL_law_1608 (s_iceq hz (tgt := 1615) rfl dL_law_1610 (s_iload hz dL_law_1615 (s_ifne hz (tgt := 1632) rfl dL_law_1617
    (go_L_law_1632 hz hn hs hret (by omega) (by omega) (Go.widen _ _ h1815 (by omega) (by omega))) (s_aload_n hz rfl dL_law_1620 (s_iconst hz rfl dL_law_1621 (s_lald hz rfl rfl rfl dL_law_1622
    (s_iload hz dL_law_1623 (s_i2l hz dL_law_1625 (s_lcmp hz dL_law_1626 (s_ifeq hz (tgt := 1632) rfl dL_law_1627 (go_L_law_1632 hz hn hs hret (by omega) (by omega) (Go.widen _ _ h1815 (by omega)
    (by omega))) (s_iconst hz rfl dL_law_1630 (hret (ble_of (by omega)) (ble_of (by omega)) dL_law_1631))))))))))) (s_iconst hz rfl dL_law_1613 (hret (ble_of (by omega)) (ble_of (by omega)) dL_law_1614))))))))))))))))))))))
def wp_L_law_1688 (b L : Nat) (xs : Nat → Int32) (K1815 : KT) : KT :=
  K1815
theorem wx_L_law_1688 (b L : Nat) (xs : Nat → Int32) (K1815 : KT) (ls : List (Option Value)) (st : List Value) (h : hp_T) : wp_L_law_1688 b L xs K1815 ls st h = (K1815) ls st h := rfl
set_option maxRecDepth 20000 in
theorem go_L_law_1688 {z : zT} {C S : Nat} {b L : Nat} {xs : Nat → Int32} {nm : String} {K1815 : KT} (hz : Cx z cL_law 7 "PanelryLaw" nm 20 601024 7293034) (hn : NCz z) (hs : ScZ z b L xs) (hret : ∀ {cells slots pc : Nat}, Nat.ble cells 601024 = true → Nat.ble slots 7293034 = true → decode cL_law pc = .ok (.ireturn, 1) → Go z cells slots pc i_lret) (hC : C + 0 ≤ 601024) (hS : S + 0 ≤ 7293034) (h1815 : Go z (C + 0) (S + 0) 1815 K1815) : Go z C S 1688 (wp_L_law_1688 b L xs K1815) := 
  s_goto hz (tgt := 1815) rfl dL_law_1688 (Go.widen _ _ h1815 (by omega) (by omega))
def wp_L_law_1635 (b L : Nat) (xs : Nat → Int32) (K1815 : KT) : KT :=
  i_aload 1 (i_aload 0 (i_iload 4 (i_pushI 1 (i_iadd (i_sld b L xs (i_aload 3 (i_callSH 3 T_L_stage (i_istore 5 (i_aload 2 (i_aload 0 (i_iload 4 (i_pushI 1 (i_iadd (i_sld b L xs (i_callV 1 11 T_X9_stage noX
    (i_istore 6 (i_aload 2 (i_callV 0 11 T_X9_thrown noX (i_iload 5 (i_iceq (i_iload 5 (i_ifne (wp_L_law_1688 b L xs K1815) (i_aload 3 (i_pushI 0 (i_lald 180 (i_iload 6 (i_i2l (i_lcmp (i_ifeq
    (wp_L_law_1688 b L xs K1815) (i_pushI 0 i_lret)))))))))) (i_pushI 0 i_lret)))))))))))))))))))))
theorem wx_L_law_1635 (b L : Nat) (xs : Nat → Int32) (K1815 : KT) (ls : List (Option Value)) (st : List Value) (h : hp_T) : wp_L_law_1635 b L xs K1815 ls st h = (i_aload 1 (i_aload 0 (i_iload 4 (i_pushI 1 (i_iadd (i_sld b L xs (i_aload 3 (i_callSH 3 T_L_stage (i_istore 5 (i_aload 2 (i_aload 0 (i_iload 4 (i_pushI 1 (i_iadd (i_sld b L xs (i_callV 1 11 T_X9_stage noX
    (i_istore 6 (i_aload 2 (i_callV 0 11 T_X9_thrown noX (i_iload 5 (i_iceq (i_iload 5 (i_ifne (wp_L_law_1688 b L xs K1815) (i_aload 3 (i_pushI 0 (i_lald 180 (i_iload 6 (i_i2l (i_lcmp (i_ifeq
    (wp_L_law_1688 b L xs K1815) (i_pushI 0 i_lret)))))))))) (i_pushI 0 i_lret)))))))))))))))))))))) ls st h := rfl
set_option maxRecDepth 20000 in
theorem go_L_law_1635 {z : zT} {C S : Nat} {b L : Nat} {xs : Nat → Int32} {nm : String} {K1815 : KT} (hz : Cx z cL_law 7 "PanelryLaw" nm 20 601024 7293034) (hn : NCz z) (hs : ScZ z b L xs) (hret : ∀ {cells slots pc : Nat}, Nat.ble cells 601024 = true → Nat.ble slots 7293034 = true → decode cL_law pc = .ok (.ireturn, 1) → Go z cells slots pc i_lret) (hC : C + 1 ≤ 601024) (hS : S + 6 ≤ 7293034) (h1815 : Go z (C + 1) (S + 6) 1815 K1815) : Go z C S 1635 (wp_L_law_1635 b L xs K1815) := 
  s_aload_n hz rfl dL_law_1635 (s_aload_n hz rfl dL_law_1636 (s_iload hz dL_law_1637 (s_iconst hz rfl dL_law_1639 (s_iadd hz dL_law_1640 (s_sld hz hs dL_law_1641 (s_aload_n hz rfl dL_law_1642
    (s_callSH hz hn ch_L_stage ⟨w895, w897, w28, by decide, by decide, by decide +kernel⟩ w896 rfl rfl (ble_of (by omega)) (ble_of (by omega)) dL_law_1643 (s_istore hz rfl dL_law_1646 (s_aload_n hz rfl dL_law_1648
    (s_aload_n hz rfl dL_law_1649 (s_iload hz dL_law_1650 (s_iconst hz rfl dL_law_1652 (s_iadd hz dL_law_1653 (s_sld hz hs dL_law_1654 (s_callV hz ct_X9_stage ⟨w1204, w1207, w33, by decide, by decide, by decide +kernel⟩ w1205 w1206 cls10 rfl rfl rfl rfl
    (ble_of (by omega)) (ble_of (by omega)) out_no dL_law_1655 (s_istore hz rfl dL_law_1658 (s_aload_n hz rfl dL_law_1660 (s_callV hz ct_X9_thrown ⟨w1059, w1062, w33, by decide, by decide, by decide +kernel⟩ w1060 w1061 cls10 rfl rfl rfl rfl
    (ble_of (by omega)) (ble_of (by omega)) out_no dL_law_1661 (s_iload hz dL_law_1664 (s_iceq hz (tgt := 1671) rfl dL_law_1666 (s_iload hz dL_law_1671 (s_ifne hz (tgt := 1688) rfl dL_law_1673
    (go_L_law_1688 hz hn hs hret (by omega) (by omega) (Go.widen _ _ h1815 (by omega) (by omega))) (s_aload_n hz rfl dL_law_1676 (s_iconst hz rfl dL_law_1677 (s_lald hz rfl rfl rfl dL_law_1678
    (s_iload hz dL_law_1679 (s_i2l hz dL_law_1681 (s_lcmp hz dL_law_1682 (s_ifeq hz (tgt := 1688) rfl dL_law_1683 (go_L_law_1688 hz hn hs hret (by omega) (by omega) (Go.widen _ _ h1815 (by omega)
    (by omega))) (s_iconst hz rfl dL_law_1686 (hret (ble_of (by omega)) (ble_of (by omega)) dL_law_1687))))))))))) (s_iconst hz rfl dL_law_1669 (hret (ble_of (by omega)) (ble_of (by omega)) dL_law_1670))))))))))))))))))))))
def wp_L_law_1744 (b L : Nat) (xs : Nat → Int32) (K1815 : KT) : KT :=
  K1815
theorem wx_L_law_1744 (b L : Nat) (xs : Nat → Int32) (K1815 : KT) (ls : List (Option Value)) (st : List Value) (h : hp_T) : wp_L_law_1744 b L xs K1815 ls st h = (K1815) ls st h := rfl
set_option maxRecDepth 20000 in
theorem go_L_law_1744 {z : zT} {C S : Nat} {b L : Nat} {xs : Nat → Int32} {nm : String} {K1815 : KT} (hz : Cx z cL_law 7 "PanelryLaw" nm 20 601024 7293034) (hn : NCz z) (hs : ScZ z b L xs) (hret : ∀ {cells slots pc : Nat}, Nat.ble cells 601024 = true → Nat.ble slots 7293034 = true → decode cL_law pc = .ok (.ireturn, 1) → Go z cells slots pc i_lret) (hC : C + 0 ≤ 601024) (hS : S + 0 ≤ 7293034) (h1815 : Go z (C + 0) (S + 0) 1815 K1815) : Go z C S 1744 (wp_L_law_1744 b L xs K1815) := 
  s_goto hz (tgt := 1815) rfl dL_law_1744 (Go.widen _ _ h1815 (by omega) (by omega))
def wp_L_law_1691 (b L : Nat) (xs : Nat → Int32) (K1815 : KT) : KT :=
  i_aload 1 (i_aload 0 (i_iload 4 (i_pushI 1 (i_iadd (i_sld b L xs (i_aload 3 (i_callSH 3 T_L_press (i_istore 5 (i_aload 2 (i_aload 0 (i_iload 4 (i_pushI 1 (i_iadd (i_sld b L xs (i_callV 1 11 T_X9_press noX
    (i_istore 6 (i_aload 2 (i_callV 0 11 T_X9_thrown noX (i_iload 5 (i_iceq (i_iload 5 (i_ifne (wp_L_law_1744 b L xs K1815) (i_aload 3 (i_pushI 0 (i_lald 180 (i_iload 6 (i_i2l (i_lcmp (i_ifeq
    (wp_L_law_1744 b L xs K1815) (i_pushI 0 i_lret)))))))))) (i_pushI 0 i_lret)))))))))))))))))))))
theorem wx_L_law_1691 (b L : Nat) (xs : Nat → Int32) (K1815 : KT) (ls : List (Option Value)) (st : List Value) (h : hp_T) : wp_L_law_1691 b L xs K1815 ls st h = (i_aload 1 (i_aload 0 (i_iload 4 (i_pushI 1 (i_iadd (i_sld b L xs (i_aload 3 (i_callSH 3 T_L_press (i_istore 5 (i_aload 2 (i_aload 0 (i_iload 4 (i_pushI 1 (i_iadd (i_sld b L xs (i_callV 1 11 T_X9_press noX
    (i_istore 6 (i_aload 2 (i_callV 0 11 T_X9_thrown noX (i_iload 5 (i_iceq (i_iload 5 (i_ifne (wp_L_law_1744 b L xs K1815) (i_aload 3 (i_pushI 0 (i_lald 180 (i_iload 6 (i_i2l (i_lcmp (i_ifeq
    (wp_L_law_1744 b L xs K1815) (i_pushI 0 i_lret)))))))))) (i_pushI 0 i_lret)))))))))))))))))))))) ls st h := rfl
set_option maxRecDepth 20000 in
theorem go_L_law_1691 {z : zT} {C S : Nat} {b L : Nat} {xs : Nat → Int32} {nm : String} {K1815 : KT} (hz : Cx z cL_law 7 "PanelryLaw" nm 20 601024 7293034) (hn : NCz z) (hs : ScZ z b L xs) (hret : ∀ {cells slots pc : Nat}, Nat.ble cells 601024 = true → Nat.ble slots 7293034 = true → decode cL_law pc = .ok (.ireturn, 1) → Go z cells slots pc i_lret) (hC : C + 5 ≤ 601024) (hS : S + 36 ≤ 7293034) (h1815 : Go z (C + 5) (S + 36) 1815 K1815) : Go z C S 1691 (wp_L_law_1691 b L xs K1815) := 
  s_aload_n hz rfl dL_law_1691 (s_aload_n hz rfl dL_law_1692 (s_iload hz dL_law_1693 (s_iconst hz rfl dL_law_1695 (s_iadd hz dL_law_1696 (s_sld hz hs dL_law_1697 (s_aload_n hz rfl dL_law_1698
    (s_callSH hz hn ch_L_press ⟨w902, w904, w28, by decide, by decide, by decide +kernel⟩ w903 rfl rfl (ble_of (by omega)) (ble_of (by omega)) dL_law_1699 (s_istore hz rfl dL_law_1702 (s_aload_n hz rfl dL_law_1704
    (s_aload_n hz rfl dL_law_1705 (s_iload hz dL_law_1706 (s_iconst hz rfl dL_law_1708 (s_iadd hz dL_law_1709 (s_sld hz hs dL_law_1710 (s_callV hz ct_X9_press ⟨w1208, w1211, w33, by decide, by decide, by decide +kernel⟩ w1209 w1210 cls10 rfl rfl rfl rfl
    (ble_of (by omega)) (ble_of (by omega)) out_no dL_law_1711 (s_istore hz rfl dL_law_1714 (s_aload_n hz rfl dL_law_1716 (s_callV hz ct_X9_thrown ⟨w1059, w1062, w33, by decide, by decide, by decide +kernel⟩ w1060 w1061 cls10 rfl rfl rfl rfl
    (ble_of (by omega)) (ble_of (by omega)) out_no dL_law_1717 (s_iload hz dL_law_1720 (s_iceq hz (tgt := 1727) rfl dL_law_1722 (s_iload hz dL_law_1727 (s_ifne hz (tgt := 1744) rfl dL_law_1729
    (go_L_law_1744 hz hn hs hret (by omega) (by omega) (Go.widen _ _ h1815 (by omega) (by omega))) (s_aload_n hz rfl dL_law_1732 (s_iconst hz rfl dL_law_1733 (s_lald hz rfl rfl rfl dL_law_1734
    (s_iload hz dL_law_1735 (s_i2l hz dL_law_1737 (s_lcmp hz dL_law_1738 (s_ifeq hz (tgt := 1744) rfl dL_law_1739 (go_L_law_1744 hz hn hs hret (by omega) (by omega) (Go.widen _ _ h1815 (by omega)
    (by omega))) (s_iconst hz rfl dL_law_1742 (hret (ble_of (by omega)) (ble_of (by omega)) dL_law_1743))))))))))) (s_iconst hz rfl dL_law_1725 (hret (ble_of (by omega)) (ble_of (by omega)) dL_law_1726))))))))))))))))))))))
def wp_L_law_1812 (b L : Nat) (xs : Nat → Int32) (K1815 : KT) : KT :=
  K1815
theorem wx_L_law_1812 (b L : Nat) (xs : Nat → Int32) (K1815 : KT) (ls : List (Option Value)) (st : List Value) (h : hp_T) : wp_L_law_1812 b L xs K1815 ls st h = (K1815) ls st h := rfl
set_option maxRecDepth 20000 in
theorem go_L_law_1812 {z : zT} {C S : Nat} {b L : Nat} {xs : Nat → Int32} {nm : String} {K1815 : KT} (hz : Cx z cL_law 7 "PanelryLaw" nm 20 601024 7293034) (hn : NCz z) (hs : ScZ z b L xs) (hret : ∀ {cells slots pc : Nat}, Nat.ble cells 601024 = true → Nat.ble slots 7293034 = true → decode cL_law pc = .ok (.ireturn, 1) → Go z cells slots pc i_lret) (hC : C + 0 ≤ 601024) (hS : S + 0 ≤ 7293034) (h1815 : Go z (C + 0) (S + 0) 1815 K1815) : Go z C S 1812 (wp_L_law_1812 b L xs K1815) := 
  s_goto hz (tgt := 1815) rfl dL_law_1812 (Go.widen _ _ h1815 (by omega) (by omega))
def wp_L_law_1747 (b L : Nat) (xs : Nat → Int32) (K1815 : KT) : KT :=
  i_aload 1 (i_aload 0 (i_iload 4 (i_pushI 1 (i_iadd (i_sld b L xs (i_aload 0 (i_iload 4 (i_pushI 2 (i_iadd (i_sld b L xs (i_aload 3 (i_callSH 4 T_L_printed (i_istore 5 (i_aload 2 (i_aload 0
    (i_iload 4 (i_pushI 1 (i_iadd (i_sld b L xs (i_aload 0 (i_iload 4 (i_pushI 2 (i_iadd (i_sld b L xs (i_callV 2 11 T_X9_printed noX (i_istore 6 (i_aload 2 (i_callV 0 11 T_X9_thrown noX
    (i_iload 5 (i_iceq (i_iload 5 (i_ifne (wp_L_law_1812 b L xs K1815) (i_aload 3 (i_pushI 0 (i_lald 180 (i_iload 6 (i_i2l (i_lcmp (i_ifeq (wp_L_law_1812 b L xs K1815) (i_pushI 0 i_lret))))))))))
    (i_pushI 0 i_lret)))))))))))))))))))))))))))))))
theorem wx_L_law_1747 (b L : Nat) (xs : Nat → Int32) (K1815 : KT) (ls : List (Option Value)) (st : List Value) (h : hp_T) : wp_L_law_1747 b L xs K1815 ls st h = (i_aload 1 (i_aload 0 (i_iload 4 (i_pushI 1 (i_iadd (i_sld b L xs (i_aload 0 (i_iload 4 (i_pushI 2 (i_iadd (i_sld b L xs (i_aload 3 (i_callSH 4 T_L_printed (i_istore 5 (i_aload 2 (i_aload 0
    (i_iload 4 (i_pushI 1 (i_iadd (i_sld b L xs (i_aload 0 (i_iload 4 (i_pushI 2 (i_iadd (i_sld b L xs (i_callV 2 11 T_X9_printed noX (i_istore 6 (i_aload 2 (i_callV 0 11 T_X9_thrown noX
    (i_iload 5 (i_iceq (i_iload 5 (i_ifne (wp_L_law_1812 b L xs K1815) (i_aload 3 (i_pushI 0 (i_lald 180 (i_iload 6 (i_i2l (i_lcmp (i_ifeq (wp_L_law_1812 b L xs K1815) (i_pushI 0 i_lret))))))))))
    (i_pushI 0 i_lret)))))))))))))))))))))))))))))))) ls st h := rfl
set_option maxRecDepth 20000 in
theorem go_L_law_1747 {z : zT} {C S : Nat} {b L : Nat} {xs : Nat → Int32} {nm : String} {K1815 : KT} (hz : Cx z cL_law 7 "PanelryLaw" nm 20 601024 7293034) (hn : NCz z) (hs : ScZ z b L xs) (hret : ∀ {cells slots pc : Nat}, Nat.ble cells 601024 = true → Nat.ble slots 7293034 = true → decode cL_law pc = .ok (.ireturn, 1) → Go z cells slots pc i_lret) (hC : C + 2 ≤ 601024) (hS : S + 12 ≤ 7293034) (h1815 : Go z (C + 2) (S + 12) 1815 K1815) : Go z C S 1747 (wp_L_law_1747 b L xs K1815) := 
  s_aload_n hz rfl dL_law_1747 (s_aload_n hz rfl dL_law_1748 (s_iload hz dL_law_1749 (s_iconst hz rfl dL_law_1751 (s_iadd hz dL_law_1752 (s_sld hz hs dL_law_1753 (s_aload_n hz rfl dL_law_1754
    (s_iload hz dL_law_1755 (s_iconst hz rfl dL_law_1757 (s_iadd hz dL_law_1758 (s_sld hz hs dL_law_1759 (s_aload_n hz rfl dL_law_1760 (s_callSH hz hn ch_L_printed ⟨w918, w920, w28, by decide, by decide, by decide +kernel⟩ w919 rfl rfl
    (ble_of (by omega)) (ble_of (by omega)) dL_law_1761 (s_istore hz rfl dL_law_1764 (s_aload_n hz rfl dL_law_1766 (s_aload_n hz rfl dL_law_1767 (s_iload hz dL_law_1768 (s_iconst hz rfl dL_law_1770
    (s_iadd hz dL_law_1771 (s_sld hz hs dL_law_1772 (s_aload_n hz rfl dL_law_1773 (s_iload hz dL_law_1774 (s_iconst hz rfl dL_law_1776 (s_iadd hz dL_law_1777 (s_sld hz hs dL_law_1778 (s_callV hz ct_X9_printed ⟨w1212, w1215, w33, by decide, by decide, by decide +kernel⟩ w1213 w1214 cls10 rfl rfl rfl rfl
    (ble_of (by omega)) (ble_of (by omega)) out_no dL_law_1779 (s_istore hz rfl dL_law_1782 (s_aload_n hz rfl dL_law_1784 (s_callV hz ct_X9_thrown ⟨w1059, w1062, w33, by decide, by decide, by decide +kernel⟩ w1060 w1061 cls10 rfl rfl rfl rfl
    (ble_of (by omega)) (ble_of (by omega)) out_no dL_law_1785 (s_iload hz dL_law_1788 (s_iceq hz (tgt := 1795) rfl dL_law_1790 (s_iload hz dL_law_1795 (s_ifne hz (tgt := 1812) rfl dL_law_1797
    (go_L_law_1812 hz hn hs hret (by omega) (by omega) (Go.widen _ _ h1815 (by omega) (by omega))) (s_aload_n hz rfl dL_law_1800 (s_iconst hz rfl dL_law_1801 (s_lald hz rfl rfl rfl dL_law_1802
    (s_iload hz dL_law_1803 (s_i2l hz dL_law_1805 (s_lcmp hz dL_law_1806 (s_ifeq hz (tgt := 1812) rfl dL_law_1807 (go_L_law_1812 hz hn hs hret (by omega) (by omega) (Go.widen _ _ h1815 (by omega)
    (by omega))) (s_iconst hz rfl dL_law_1810 (hret (ble_of (by omega)) (ble_of (by omega)) dL_law_1811))))))))))) (s_iconst hz rfl dL_law_1793 (hret (ble_of (by omega)) (ble_of (by omega)) dL_law_1794))))))))))))))))))))))))))))))))
def wp_L_law_1815 (b L : Nat) (xs : Nat → Int32) (K23 : KT) : KT :=
  i_iinc 4 9 K23
theorem wx_L_law_1815 (b L : Nat) (xs : Nat → Int32) (K23 : KT) (ls : List (Option Value)) (st : List Value) (h : hp_T) : wp_L_law_1815 b L xs K23 ls st h = (i_iinc 4 9 K23) ls st h := rfl
set_option maxRecDepth 20000 in
theorem go_L_law_1815 {z : zT} {C S : Nat} {b L : Nat} {xs : Nat → Int32} {nm : String} {K23 : KT} (hz : Cx z cL_law 7 "PanelryLaw" nm 20 601024 7293034) (hn : NCz z) (hs : ScZ z b L xs) (hret : ∀ {cells slots pc : Nat}, Nat.ble cells 601024 = true → Nat.ble slots 7293034 = true → decode cL_law pc = .ok (.ireturn, 1) → Go z cells slots pc i_lret) (hC : C + 0 ≤ 601024) (hS : S + 0 ≤ 7293034) (h23 : Go z (C + 0) (S + 0) 23 K23) : Go z C S 1815 (wp_L_law_1815 b L xs K23) := 
  s_iinc hz rfl rfl dL_law_1815 (s_goto hz (tgt := 23) rfl dL_law_1818 (Go.widen _ _ h23 (by omega) (by omega)))
/-- the head of the law's loop -/
def wp_L_law_23 (b L : Nat) (xs : Nat → Int32) (K : Nat → KT) (KD : KT) : KT := i_iload 4 (i_aload 0 (i_slen b L (i_pushI 9 (i_isub (i_icgt (i_pushI 1 i_lret) (i_aload 0 (i_iload 4 (i_sld b L xs (i_pushI 31 (i_iand (i_tsw 22 K KD)))))))))))
theorem wx_L_law_23 (b L : Nat) (xs : Nat → Int32) (K : Nat → KT) (KD : KT) (ls : List (Option Value)) (st : List Value) (h : hp_T) : wp_L_law_23 b L xs K KD ls st h = (i_iload 4 (i_aload 0 (i_slen b L (i_pushI 9 (i_isub (i_icgt (i_pushI 1 i_lret) (i_aload 0 (i_iload 4 (i_sld b L xs (i_pushI 31 (i_iand (i_tsw 22 K KD)))))))))))) ls st h := rfl
theorem go_L_law_23 {z : zT} {C S : Nat} {b L : Nat} {xs : Nat → Int32} {nm : String} {K : Nat → KT} {KD : KT} (hz : Cx z cL_law 7 "PanelryLaw" nm 20 601024 7293034) (hn : NCz z) (hs : ScZ z b L xs) (hret : ∀ {cells slots pc : Nat}, Nat.ble cells 601024 = true → Nat.ble slots 7293034 = true → decode cL_law pc = .ok (.ireturn, 1) → Go z cells slots pc i_lret) (hC : C ≤ 601024) (hS : S ≤ 7293034) (hG : ∀ k, k < 22 → Go z C S ((fun k => [144, 216, 320, 411, 507, 563, 647, 738, 794, 838, 980, 1126, 1198, 1266, 1279, 1387, 1467, 1523, 1579, 1635, 1691, 1747].getD k 0) k) (K k)) (hD : Go z C S 1815 KD) : Go z C S 23 (wp_L_law_23 b L xs K KD) :=
  s_iload hz dL_law_23 (s_aload_n hz rfl dL_law_25 (s_slen hz hs dL_law_26 (s_bipush hz rfl dL_law_27 (s_isub hz dL_law_29 (s_icgt hz (tgt := 1821) rfl dL_law_30 (s_iconst hz rfl dL_law_1821 (hret (ble_of (by omega)) (ble_of (by omega)) dL_law_1822)) (s_aload_n hz rfl dL_law_33 (s_iload hz dL_law_34 (s_sld hz hs dL_law_36 (s_bipush hz rfl dL_law_37 (s_iand hz dL_law_39
    (s_tsw hz (tg := (fun k => [144, 216, 320, 411, 507, 563, 647, 738, 794, 838, 980, 1126, 1198, 1266, 1279, 1387, 1467, 1523, 1579, 1635, 1691, 1747].getD k 0)) (by decide) (by decide) dL_law_40 (by decide) (by decide) hG hD)))))))))))
