/-! the law's own methods: calls that catch, the script -/
def exL : List String := ["java/lang/IndexOutOfBoundsException", "java/lang/IllegalArgumentException", "java/lang/IllegalStateException"]
def NCs (U : State) : Prop := ∀ E ∈ exL, ∀ N ∈ exL, E ≠ N → va_Nc E N U
theorem NCs.moved {u U : State} (hvm : u.vm.Alike U.vm) (h : NCs u) : NCs U := fun E a N b c => va_Nc.moved hvm (h E a N b c)
def NCz (z : zT) : Prop := match z with
  | (_, _, _, _, s, _, _, _, _, _, _, _) => NCs s
def RPN (g : gT) (h : hp_T) (U : State) : Prop := RP g h U ∧ NCs U
def RtH (z : zT) (rt : Option FieldType) (P : Option Value → hp_T → Prop) (hh : List (Nat × Nat × Nat × Nat)) (mc ms : Nat) : Prop := match z with
  | (_, _, _, _, s, _, args, below, meth, c, Q, g) => c.exceptionTable.toList = tableOf hh ∧ meth.sig.returnType = rt ∧ Q = vx_MQ below (QNf g P) (XNf g noX) args s mc ms (gA g)
theorem s_iretH {z : zT} {cc : ByteArray} {nL lv mc ms cells slots pc : Nat} {own nm : String} {P : Option Value → hp_T → Prop} {hh : List (Nat × Nat × Nat × Nat)} (hz : Cx z cc nL own nm lv mc ms) (hr : RtH z (some .int) P hh mc ms) (hc : Nat.ble cells mc = true) (hs : Nat.ble slots ms = true) (d : decode cc pc = .ok (.ireturn, 1)) : Go z cells slots pc (i_iret P) := by
  obtain ⟨p, l, e, R, s, m, args, below, meth, c, Q, g⟩ := z
  obtain ⟨hx, hb, hml, hown, hts, hlk, hnm, hst, hRm, hB, hV⟩ := hz
  obtain ⟨r1, r2, rfl⟩ := hr
  intro ls st h H locs la hk hP hS hl
  unfold i_iret at hk
  split at hk
  · exact W.widen (Nat.le_of_ble_eq_true hc) (Nat.le_of_ble_eq_true hs) (vx_ret (W.iret hx hb r2 (fun t ht hW => ⟨⟨_, h, rfl, hk, by rw [ht]; exact hP⟩, hS.F ht⟩) hS.2.2 d (hlocks := hlk)))
  · exact hk.elim
theorem cast_in {E : String} (h : E ∈ exL) : Cond.castable E E ∈ lw_tbl := by
  simp only [exL, List.mem_cons, List.not_mem_nil, or_false] at h
  rcases h with rfl | rfl | rfl <;> decide +kernel
/-- what a call throws is caught by its row -/
theorem out_h {z : zT} {cc : ByteArray} {nL lv mc ms cells slots pc : Nat} {nm : String} {rt : Option FieldType} {P : Option Value → hp_T → Prop} {X : String → hp_T → Prop} {hh : List (Nat × Nat × Nat × Nat)} (hz : Cx z cc nL "PanelryLaw" nm lv mc ms) (hn : NCz z) (hr : RtH z rt P hh mc ms)
    (H : ∀ E h, X E h → E ∈ exL ∧ ∃ (pre : List ExceptionTableEntry) (x : ExceptionTableEntry) (suf : List ExceptionTableEntry), tableOf hh = pre ++ x :: suf ∧ (∀ y ∈ pre, y.catchType ≠ 0 ∧ ∃ N ∈ exL, Cond.classLink "PanelryLaw" y.catchType N ∈ WS0 ∧ E ≠ N) ∧ covers x pc = true ∧ x.catchType ≠ 0 ∧ Cond.classLink "PanelryLaw" x.catchType E ∈ WS0 ∧ ∃ k, Go z cells slots x.handlerPc k ∧ ∀ ls q, k ls [.ref q] h) : OutOK z X cells slots pc := by
  obtain ⟨p, l, e, R, s, m, args, below, meth, c, Q, g⟩ := z
  obtain ⟨hx, hb, hml, hown, hts, hlk, hnm, hst, hRm, hB, hV⟩ := hz
  obtain ⟨r1, r2, rfl⟩ := hr
  intro E ce q h HH locs ls la rest hX hP hS hl hce hcv hcl
  obtain ⟨hE, pre, x, suf, e1, e2, e3, e4, e5, k, hG, hk⟩ := H E h hX
  exact vx_catch hown pre x suf (r1.trans e1) (fun y hy => Or.inr (by
    obtain ⟨y1, N, y2, y3, y4⟩ := e2 y hy
    exact ⟨y1, N, hts _ y3, hn E hE N y2 y4⟩)) e3 e4 (hts _ e5) (va_Nw.use rfl (hV.2.2.2.1 _ (cast_in hE) rfl)) hce hcv hcl (hG ls [.ref q] h HH locs la (hk ls q) hP hS hl)
def WSH (y : MethodName) (cc : ByteArray) (nL : Nat) (rt : Option FieldType) (hh : List (Nat × Nat × Nat × Nat)) : List Cond := Cond.codeWith y cc nL rt hh :: WS0
abbrev PTH : Type := List Value → hp_T → (Option Value → hp_T → Prop) → Prop
def CTH (y : MethodName) (cc : ByteArray) (nL : Nat) (rt : Option FieldType) (hh : List (Nat × Nat × Nat × Nat)) (lv mc ms : Nat) (T : PTH) : Prop := ∀ l : Launch, l.stackTraces = false → ∀ (g : gT) (av : List Value) (h : hp_T) (P : Option Value → hp_T → Prop), T av h P → vx_Met l y (WSH y cc nL rt hh) (rmL lv mc ms) (va_Pc av (RPN g h)) (QNf g P) (XNf g noX) mc ms (gA g)
theorem ctH_of {y : MethodName} {cc : ByteArray} {nL lv mc ms : Nat} {rt : Option FieldType} {hh : List (Nat × Nat × Nat × Nat)} {T : PTH} (hy : plainName y.cls = true)
    (hG : ∀ (z : zT) (av : List Value) (h : hp_T) (P : Option Value → hp_T → Prop), T av h P → Cx z cc nL y.cls y.name lv mc ms → NCz z → RtH z rt P hh mc ms → ∃ kk, Go z 0 0 0 kk ∧ kk (lent nL av) [] h)
    (hT : ∀ av h P, T av h P → av.length ≤ nL ∧ ∀ w ∈ av, isC1 w) : CTH y cc nL rt hh lv mc ms T := by
  intro l hst g av h P hTT
  obtain ⟨hlen, hcat⟩ := hT av h P hTT
  have hcat1 : ∀ w ∈ av, w.category = 1 := fun w hw => (hcat w hw).cat
  refine vx_ofWH (cc := cc) (maxL := nL) (ret := rt) (hh := hh) hy rfl ?_
  intro p e s m args below meth c s₁ B hml hv
  obtain ⟨rfl, ⟨hB, hP, hV⟩, hN⟩ := hv
  have hts := atoms_spec (ws := WSH y cc nL rt hh) B.pre
  have hCx : Cx (p, l, e, (headSpec (WSH y cc nL rt hh) (rmL lv mc ms)).room, s, m, av.toArray, below, meth, c, vx_MQ below (QNf g P) (XNf g noX) av.toArray s mc ms (gA g), g) cc nL y.cls y.name lv mc ms :=
    ⟨B.exec, B.bytes, hml, findClass_of_methodNamed B.named, fun w hw => hts w (List.mem_cons_of_mem _ hw), B.notSynchronized, (name_of_methodNamed B.named B.method).1, hst, ⟨Nat.le_refl _, Nat.le_refl _, Nat.le_refl _, Nat.le_refl _⟩, hB, hV⟩
  have hRt : RtH (p, l, e, (headSpec (WSH y cc nL rt hh) (rmL lv mc ms)).room, s, m, av.toArray, below, meth, c, vx_MQ below (QNf g P) (XNf g noX) av.toArray s mc ms (gA g), g) rt P hh mc ms := ⟨vx_table (x := y) B (hts _ List.mem_cons_self), B.returns, rfl⟩
  obtain ⟨kk, hGo, hk⟩ := hG _ av h P hTT hCx hN hRt
  have hls : (lg_sl av).length ≤ nL := by rw [lg_len av hcat1]; exact hlen
  have hl := lv_entry av hls
  rw [lg_entry_eq]
  refine hGo (lent nL av) [] h s.heap [] _ hk hP va_S.rf ⟨hl.1.trans hml.symm, hl.2.1, fun i v hi => ?_⟩
  have h1 := lget_ent av _ (lget_rep _) i v hi
  refine ⟨hcat1 v (List.mem_of_getElem? h1), ?_⟩
  have h2 := lv_args_at av 0 i v hcat1 h1
  rw [Nat.zero_add] at h2
  exact hl.2.2 _ h2
def i_callSH (n : Nat) (T : PTH) (k : KT) : KT := fun ls st h => match popN n [] st with
  | some (As, rest) => rest.length ≤ 4 ∧ T As h (fun v h' => k ls (pushO v rest) h')
  | none => False
theorem rpn_blind {g : gT} {h : hp_T} {av : List Value} : FrameBlind (va_Pc av (RPN g h)) := fun a U f mk q => ⟨q.1, ⟨q.2.1.1, q.2.1.2.1, VMx.moved (s := U) (U := U.calling f mk _) (State.WarmedH.refl U) (fun _ _ _ => rfl) q.2.1.2.2⟩, NCs.moved (u := U) (U := U.calling f mk a) (Vm.Alike.refl U.vm) q.2.2⟩
theorem s_callSH {z : zT} {cc cc' : ByteArray} {nL lv mc ms cells slots pc nL' lv' mc' ms' n ix : Nat} {own nm : String} {k : KT} {y : MethodName} {rt' : Option FieldType} {hh : List (Nat × Nat × Nat × Nat)} {T : PTH} (hz : Cx z cc nL own nm lv mc ms) (hn : NCz z) (hC : CTH y cc' nL' rt' hh lv' mc' ms' T) (hca : Cond.methodLink own ix y ∈ WS0 ∧ Cond.codeWith y cc' nL' rt' hh ∈ WS0 ∧ Cond.initialized y.cls ∈ WS0 ∧ (y.cls ≠ "java/lang/invoke/MethodHandle" ∧ y.cls ≠ "java/lang/invoke/VarHandle" ∧ (parseMethodDescriptor y.desc).map (fun d => d.parameters.length) = some n)) (hw1 : Cond.static y ∈ WS0) (hlv : Nat.ble (lv' + 1) lv = true) (hnl : Nat.ble nL' 40 = true) (hcc : Nat.ble (cells + mc') mc = true) (hss : Nat.ble (slots + ms') ms = true) (d : decode cc pc = .ok (.invokestatic ix, 3)) (nx : Go z (cells + mc') (slots + ms') (pc + 3) k) : Go z cells slots pc (i_callSH n T k) := by
  obtain ⟨p, l, e, R, s, m, args, below, meth, c, Q, g⟩ := z
  obtain ⟨hx, hb, hml, hown, hts, hlk, hnm, hst, hRm, hB, hV⟩ := hz
  intro ls st h H locs la hk hP hS hl
  have g1 := Nat.le_of_ble_eq_true hlv
  have g2 := Nat.le_of_ble_eq_true hnl
  have g3 := Nat.le_of_ble_eq_true hcc
  have g4 := Nat.le_of_ble_eq_true hss
  unfold i_callSH at hk
  split at hk
  · next As rest e1 =>
    obtain ⟨hr4, hT⟩ := hk
    obtain ⟨A1, a1, a2, a3⟩ := popN_spec _ _ _ _ _ e1
    rw [List.append_nil] at a1
    subst a1
    have hM := hC l hst g _ h _ hT
    have hcs := cat_sum rest
    have hG : GoodIn WS0 (WSH y cc' nL' rt' hh) := by
      intro w hw
      rcases List.mem_cons.mp hw with e | e
      · rw [e]; exact ⟨hca.2.1, ws0_good hca.2.1⟩
      · exact ⟨e, ws0_good e⟩
    have hcw : vx_CSW R s args own ix y cc' nL' rt' hh (WSH y cc' nL' rt' hh) (rmL lv' mc' ms') mc' ms' n :=
      ⟨⟨rfl, rfl, by show lv' + 1 ≤ R.frames; omega, by show 8 + (nL' + 11) + 64 * lv' ≤ R.locals; omega, pay_in hts hG, List.mem_cons_self⟩, hts _ hca.2.1, hts _ hca.2.2.1, ⟨hca.2.2.2.1, hca.2.2.2.2.1⟩, fun sig hs => by
        have h2 := hca.2.2.2.2.2
        rw [hs] at h2
        exact (Option.some.inj h2).symm, hts _ hca.1, hts _ hw1⟩
    exact run_go nx (out_no (z := (p, l, e, R, s, m, args, below, meth, c, Q, g))) hP hS hl (vx_runSX (cells := cells) (slots := slots) (g := F0 m pc la st) (As := As) (rest := rest) (locs := locs) ⟨hx, hb, hml, hown, hts⟩ hM hcw ⟨rpn_blind, fun U hU hW => ⟨rfl, (pre_rp As hB hV hP hS U hU hW).2, NCs.moved hW.alike hn⟩⟩ rfl a2 (hl.1.trans hml) a3 (lv_room (by omega)) d ⟨by omega, by omega⟩)
  · exact hk.elim
/-- the law's script lies where nothing is written -/
def ScZ (z : zT) (b L : Nat) (xs : Nat → Int32) : Prop := match z with
  | (_, _, _, _, s, _, _, _, _, _, _, g) => va_X b L xs s s.heap ∧ b < s.heap.size ∧ ¬ gA g b
def i_sld (b L : Nat) (xs : Nat → Int32) (k : KT) : KT := fun ls st h => match st with
  | .int i :: .ref q :: r => (q = b ∧ vp_in i L) ∧ k ls (.int (xs i.toNatClampNeg) :: r) h
  | _ => False
def i_slen (b L : Nat) (k : KT) : KT := fun ls st h => match st with
  | .ref q :: r => q = b ∧ k ls (.int (nI L) :: r) h
  | _ => False
theorem s_sld {z : zT} {cc : ByteArray} {nL lv mc ms cells slots pc : Nat} {own nm : String} (hz : Cx z cc nL own nm lv mc ms) {b L : Nat} {xs : Nat → Int32} (hs : ScZ z b L xs) (d : decode cc pc = .ok (.iaload, 1)) {k : KT} (n : Go z cells slots (pc + 1) k) : Go z cells slots pc (i_sld b L xs k) := by
  obtain ⟨p, l, e, R, s, m, args, below, meth, c, Q, g⟩ := z
  obtain ⟨hx, hb, hml, hown, hts, hlk, hnm, hst, hR, hB, hV⟩ := hz
  obtain ⟨h1, h2, h3⟩ := hs
  intro ls st h H locs la hk hP hS hl
  unfold i_sld at hk
  split at hk
  · next i q r =>
    obtain ⟨⟨rfl, hi⟩, hk⟩ := hk
    exact va_sld hx hb h1 h2 h3 hS hi d (n ls _ h H locs la hk hP hS hl)
  · exact hk.elim
theorem s_slen {z : zT} {cc : ByteArray} {nL lv mc ms cells slots pc : Nat} {own nm : String} (hz : Cx z cc nL own nm lv mc ms) {b L : Nat} {xs : Nat → Int32} (hs : ScZ z b L xs) (d : decode cc pc = .ok (.arraylength, 1)) {k : KT} (n : Go z cells slots (pc + 1) k) : Go z cells slots pc (i_slen b L k) := by
  obtain ⟨p, l, e, R, s, m, args, below, meth, c, Q, g⟩ := z
  obtain ⟨hx, hb, hml, hown, hts, hlk, hnm, hst, hR, hB, hV⟩ := hz
  obtain ⟨h1, h2, h3⟩ := hs
  intro ls st h H locs la hk hP hS hl
  unfold i_slen at hk
  split at hk
  · next q r =>
    obtain ⟨rfl, hk⟩ := hk
    exact va_slen hx hb h1 h2 h3 hS d (n ls _ h H locs la hk hP hS hl)
  · exact hk.elim
def i_lret : KT := fun _ st _ => st = [.int 1]
