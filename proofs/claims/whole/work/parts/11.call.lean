/-! calls, returns, throws: a method's contract as a transformer of ends -/
def QNf (g : gT) (P : Option Value → hp_T → Prop) : Array Value → State → Outcome → State → Prop := fun _ st o t => (∃ v h', o = .returned v ∧ P v h' ∧ gRPh g h' t.heap) ∧ va_F (gA g) st t
def XNf (g : gT) (X : String → hp_T → Prop) : String → State → State → Prop := fun E st t => (∃ h', X E h' ∧ gRPh g h' t.heap) ∧ va_F (gA g) st t
abbrev PT : Type := List Value → hp_T → (Option Value → hp_T → Prop) → (String → hp_T → Prop) → Prop
def CT1 (l : Launch) (y : MethodName) (cc : ByteArray) (nL : Nat) (rt : Option FieldType) (lv mc ms : Nat) (T : PT) : Prop :=
  ∀ (g : gT) (av : List Value) (h : hp_T) (P : Option Value → hp_T → Prop) (X : String → hp_T → Prop), T av h P X → vx_Met l y (WS y cc nL rt) (rmL lv mc ms) (va_Pc av (RP g h)) (QNf g P) (XNf g X) mc ms (gA g)
def CT (y : MethodName) (cc : ByteArray) (nL : Nat) (rt : Option FieldType) (lv mc ms : Nat) (T : PT) : Prop := ∀ l : Launch, l.stackTraces = false → CT1 l y cc nL rt lv mc ms T
def Rt (z : zT) (rt : Option FieldType) (P : Option Value → hp_T → Prop) (X : String → hp_T → Prop) (mc ms : Nat) : Prop := match z with
  | (_, _, _, _, s, _, args, below, meth, c, Q, g) => (∀ x ∈ c.exceptionTable.toList, False) ∧ meth.sig.returnType = rt ∧ Q = vx_MQ below (QNf g P) (XNf g X) args s mc ms (gA g)
def noX : String → hp_T → Prop := fun _ _ => False
def popN : Nat → List Value → List Value → Option (List Value × List Value)
  | 0, acc, st => some (acc, st)
  | n + 1, acc, v :: st => popN n (v :: acc) st
  | _ + 1, _, [] => none
theorem popN_spec : ∀ (n : Nat) (acc st As rest : List Value), popN n acc st = some (As, rest) → ∃ A1, As = A1 ++ acc ∧ A1.length = n ∧ st = A1.reverse ++ rest
  | 0, acc, st, As, rest, h => by simp only [popN] at h; cases h; exact ⟨[], rfl, rfl, rfl⟩
  | n + 1, acc, v :: st, As, rest, h => by
    simp only [popN] at h
    obtain ⟨A1, e1, e2, e3⟩ := popN_spec n (v :: acc) st As rest h
    exact ⟨A1 ++ [v], by rw [e1]; simp, by simp [e2], by rw [e3]; simp⟩
  | n + 1, acc, [], As, rest, h => by simp [popN] at h
def pushO (v : Option Value) (st : List Value) : List Value := match v with
  | some v => v :: st
  | none => st
theorem pushO_eq (v : Option Value) (st : List Value) : v.toList ++ st = pushO v st := by cases v <;> rfl
def kC (kd : Nat) : Nat := match kO kd with
  | some q => q.1 + 1
  | none => 0
def CaOK (own : String) (ix : Nat) (y : MethodName) (cc : ByteArray) (nL : Nat) (rt : Option FieldType) (n : Nat) : Prop :=
  Cond.methodLink own ix y ∈ WS0 ∧ Cond.code y cc nL rt ∈ WS0 ∧ Cond.initialized y.cls ∈ WS0 ∧ (y.cls ≠ "java/lang/invoke/MethodHandle" ∧ y.cls ≠ "java/lang/invoke/VarHandle" ∧ (parseMethodDescriptor y.desc).map (fun d => d.parameters.length) = some n)
def i_callV (n cn : Nat) (T : PT) (X : String → hp_T → Prop) (k : KT) : KT := fun ls st h => match popN (n + 1) [] st with
  | some (.ref b :: As, rest) => (rest.length ≤ 4 ∧ kC (hK h b) = cn) ∧ T (.ref b :: As) h (fun v h' => k ls (pushO v rest) h') X
  | _ => False
def i_callS (n : Nat) (T : PT) (X : String → hp_T → Prop) (k : KT) : KT := fun ls st h => match popN n [] st with
  | some (As, rest) => rest.length ≤ 4 ∧ T As h (fun v h' => k ls (pushO v rest) h') X
  | none => False
def i_callI (n : Nat) (T : PT) (X : String → hp_T → Prop) (k : KT) : KT := fun ls st h => match popN (n + 1) [] st with
  | some (.ref b :: As, rest) => rest.length ≤ 4 ∧ T (.ref b :: As) h (fun v h' => k ls (pushO v rest) h') X
  | _ => False
theorem va_Pc_blind {g : gT} {h : hp_T} {av : List Value} : FrameBlind (va_Pc av (RP g h)) := fun _ U f mk q => ⟨q.1, q.2.1, q.2.2.1, VMx.moved (s := U) (U := U.calling f mk _) (State.WarmedH.refl U) (fun _ _ _ => rfl) q.2.2.2⟩
section CALL
variable {p : Program} {l : Launch} {e : Env} {R : Room} {s : State} {m : MethodId} {args : Array Value} {below : List Frame} {meth : Method} {c : Code} {Q : State → Prop} {g : gT}
/-- what may follow an exception that a call brings -/
def OutOK (z : zT) (X : String → hp_T → Prop) (cells slots pc : Nat) : Prop := match z with
  | (p, l, e, R, s, m, args, below, meth, c, Q, g) => ∀ (E : String) (ce : Cell) (q : Addr) (h : hp_T) (H : Heap) (locs : List Loc) (ls : List (Option Value)) (la : Array Slot) (rest : List Value), X E h → gRPh g h H → va_S (gA g) s.heap H locs → lvh la c.maxLocals ls → H[q]? = some ce → ce.vm = .none → s.vm.findClass E = some ce.cls → vx_W p l e R s m args below meth c H locs cells slots Q (F0 m pc la rest) q
theorem out_no {z : zT} {cells slots pc : Nat} : OutOK z noX cells slots pc := by
  obtain ⟨p, l, e, R, s, m, args, below, meth, c, Q, g⟩ := z
  exact fun _ _ _ _ _ _ _ _ _ q => q.elim
theorem out_rt {z : zT} {cc : ByteArray} {nL lv mc ms cells slots pc : Nat} {own nm : String} {rt : Option FieldType} {P : Option Value → hp_T → Prop} {X : String → hp_T → Prop} (hz : Cx z cc nL own nm lv mc ms) (hr : Rt z rt P X mc ms) (hc : cells ≤ mc) (hs : slots ≤ ms) : OutOK z X cells slots pc := by
  obtain ⟨p, l, e, R, s, m, args, below, meth, c, Q, g⟩ := z
  obtain ⟨hx, hb, hml, hown, hts, hlk, hnm, hst, hRm, hB, hV⟩ := hz
  obtain ⟨r1, r2, rfl⟩ := hr
  intro E ce q h H locs ls la rest hX hP hS hl hce hcv hcl
  exact vx_out (fun x hx => (r1 x hx).elim) hlk hce hcv hcl (fun t ht _ => ⟨⟨h, hX, by rw [ht]; exact hP⟩, hS.F ht⟩) hS.2.2 hc hs
theorem run_go {cells slots mc' ms' pc : Nat} {k : KT} {X : String → hp_T → Prop} {ls : List (Option Value)} {la : Array Slot} {st0 rest : List Value} {h : hp_T} {H : Heap} {locs : List Loc} {a : Array Value} (n : Go (p, l, e, R, s, m, args, below, meth, c, Q, g) (cells + mc') (slots + ms') (pc + 3) k) (o : OutOK (p, l, e, R, s, m, args, below, meth, c, Q, g) X (cells + mc') (slots + ms') pc) (hP : gRPh g h H) (hS : va_S (gA g) s.heap H locs) (hl : lvh la c.maxLocals ls)
    (hr : vx_Run p l e R s m args below meth c H locs cells slots mc' ms' (F0 m pc la st0) rest (QNf g (fun v h' => k ls (pushO v rest) h') a) (XNf g X) (gA g)) : W p l e R s m args below meth c H locs cells slots Q (F0 m pc la st0) := by
  intro T hT X0
  rcases hr T hT X0 with ⟨v, st₀, t, T', L, h0, X', hL, e1, e2, ⟨⟨v', h', hv, hp, hb⟩, hF⟩, st⟩ | ⟨q, st₀, t, T', L, E, ce, h0, X', hL, e1, e2, ⟨⟨h', hp, hb⟩, hF⟩, hce, hcv, hcl, st⟩
  · cases hv
    obtain ⟨k1, k2, k3⟩ := vx_keep (A0 := gA g) h0 e1 hS (fun _ _ q => q) (fun _ q => q) hL hF
    obtain ⟨t2, a1, b1⟩ := n ls _ h' T'.heap (locs ++ L) la hp (by rw [e1]; exact hb) k3 hl T' rfl X'
    rw [← pushO_eq] at a1
    exact ⟨t2, st t2 a1, b1⟩
  · obtain ⟨k1, k2, k3⟩ := vx_keep (A0 := gA g) h0 e1 hS (fun _ _ q => q) (fun _ q => q) hL hF
    obtain ⟨t2, a1, b1⟩ := o E ce q h' T'.heap (locs ++ L) ls la rest hp (by rw [e1]; exact hb) k3 hl (by rw [e1]; exact hce) hcv hcl T' rfl X'
    exact ⟨t2, st.trans a1, b1⟩
theorem pre_rp {h : hp_T} {H : Heap} {locs : List Loc} (av : List Value) (hB : g.1 ≤ s.heap.size) (hV : VMx g s) (hP : gRPh g h H) (hS : va_S (gA g) s.heap H locs) (U : State) (hU : U.heap = H) (hW : s.WarmedH U.vm) : va_Pc av (RP g h) av.toArray U := ⟨rfl, Nat.le_trans hB (by rw [hU]; exact hS.1), by rw [hU]; exact hP, VMx.moved hW (fun q q1 q2 => by rw [hU]; exact hS.2.1 q q1 q2) hV⟩
end CALL
section CALL2
variable {z : zT} {cc cc' : ByteArray} {nL lv mc ms cells slots pc nL' lv' mc' ms' n ix : Nat} {own nm : String} {k : KT} {y : MethodName} {rt' : Option FieldType} {T : PT} {X : String → hp_T → Prop}
theorem callB_ws {R : Room} {s : State} {args : Array Value} (hts : ∀ w ∈ WS0, w.before args s = true) (hca : CaOK own ix y cc' nL' rt' n) (hR : lv' + 1 ≤ R.frames ∧ 8 + (nL' + 11) + 64 * lv' ≤ R.locals) : CallB R s args own ix y cc' nL' rt' (WS y cc' nL' rt') (rmL lv' mc' ms') mc' ms' n :=
  callB_of n hts (ws_in (fun _ h => h) hca.2.1) rfl rfl rfl (hts _ hca.2.2.1) (hts _ hca.1) hca.2.2.2 hR
theorem s_callV (hz : Cx z cc nL own nm lv mc ms) {cn ci N : Nat} {C : String} {Tc : u_T} {fl : List Bool} (hC : CT y cc' nL' rt' lv' mc' ms' T) (hca : CaOK own ix y cc' nL' rt' n) (hw1 : Cond.instanceMethod y ∈ WS0) (hw2 : Cond.selects y.cls y y ∈ WS0) (hc : ClsOK ci C Tc N fl) (hyC : y.cls = C) (hcn : cn = ci + 1) (hlv : Nat.ble (lv' + 1) lv = true) (hnl : Nat.ble nL' 40 = true) (hcc : Nat.ble (cells + mc') mc = true) (hss : Nat.ble (slots + ms') ms = true) (o : OutOK z X (cells + mc') (slots + ms') pc) (d : decode cc pc = .ok (.invokevirtual ix, 3)) (nx : Go z (cells + mc') (slots + ms') (pc + 3) k) : Go z cells slots pc (i_callV n cn T X k) := by
  obtain ⟨p, l, e, R, s, m, args, below, meth, c, Q, g⟩ := z
  obtain ⟨hx, hb, hml, hown, hts, hlk, hnm, hst, hRm, hB, hV⟩ := hz
  intro ls st h H locs la hk hP hS hl
  have g1 := Nat.le_of_ble_eq_true hlv
  have g2 := Nat.le_of_ble_eq_true hnl
  have g3 := Nat.le_of_ble_eq_true hcc
  have g4 := Nat.le_of_ble_eq_true hss
  unfold i_callV at hk
  split at hk
  · next b As rest e1 =>
    obtain ⟨⟨hr4, hkc⟩, hT⟩ := hk
    obtain ⟨A1, a1, a2, a3⟩ := popN_spec _ _ _ _ _ e1
    rw [List.append_nil] at a1
    subst a1
    have hM := hC l hst g _ h _ X hT
    have hlen : As.length = n := by simpa using a2
    obtain ⟨fl0, hko⟩ : ∃ fl0, kO (hK h b) = some (ci, fl0) := by
      unfold kC at hkc
      split at hkc
      · next q hq => exact ⟨q.2, by rw [hq]; exact congrArg some (Prod.ext (by omega) rfl)⟩
      · omega
    have k0 : hK h b ≠ 0 := fun q => by rw [q] at hko; cases hko
    have hrecv := va_recv hV.1 (va_P1 (rp_obj hP rfl k0 hko)) hc.1 (q0 := 0) rfl
    have hcs := cat_sum rest
    have hcw : CallW R s args own y.cls ix y cc' nL' rt' (WS y cc' nL' rt') (rmL lv' mc' ms') mc' ms' n := ⟨callB_ws hts hca ⟨by omega, by omega⟩, hts _ hw1, hts _ hw2⟩
    rw [← hyC] at hrecv
    exact run_go nx o hP hS hl (vx_runV (cells := cells) (slots := slots) (g := F0 m pc la st) (b := b) (As := As) (rest := rest) (locs := locs) ⟨hx, hb, hml, hown, hts⟩ hM hcw ⟨va_Pc_blind, hrecv, pre_rp _ hB hV hP hS⟩ rfl hlen (hl.1.trans hml) (by rw [a3]; simp) (lv_room (by omega)) d ⟨by omega, by omega⟩)
  · exact hk.elim
theorem s_callS (hz : Cx z cc nL own nm lv mc ms) (hC : CT y cc' nL' rt' lv' mc' ms' T) (hca : CaOK own ix y cc' nL' rt' n) (hw1 : Cond.static y ∈ WS0) (hlv : Nat.ble (lv' + 1) lv = true) (hnl : Nat.ble nL' 40 = true) (hcc : Nat.ble (cells + mc') mc = true) (hss : Nat.ble (slots + ms') ms = true) (o : OutOK z X (cells + mc') (slots + ms') pc) (d : decode cc pc = .ok (.invokestatic ix, 3)) (nx : Go z (cells + mc') (slots + ms') (pc + 3) k) : Go z cells slots pc (i_callS n T X k) := by
  obtain ⟨p, l, e, R, s, m, args, below, meth, c, Q, g⟩ := z
  obtain ⟨hx, hb, hml, hown, hts, hlk, hnm, hst, hRm, hB, hV⟩ := hz
  intro ls st h H locs la hk hP hS hl
  have g1 := Nat.le_of_ble_eq_true hlv
  have g2 := Nat.le_of_ble_eq_true hnl
  have g3 := Nat.le_of_ble_eq_true hcc
  have g4 := Nat.le_of_ble_eq_true hss
  unfold i_callS at hk
  split at hk
  · next As rest e1 =>
    obtain ⟨hr4, hT⟩ := hk
    obtain ⟨A1, a1, a2, a3⟩ := popN_spec _ _ _ _ _ e1
    rw [List.append_nil] at a1
    subst a1
    have hM := hC l hst g _ h _ X hT
    have hcs := cat_sum rest
    exact run_go nx o hP hS hl (vx_runS (cells := cells) (slots := slots) (g := F0 m pc la st) (As := As) (rest := rest) (locs := locs) ⟨hx, hb, hml, hown, hts⟩ hM ⟨callB_ws hts hca ⟨by omega, by omega⟩, hts _ hw1⟩ ⟨va_Pc_blind, pre_rp _ hB hV hP hS⟩ rfl a2 (hl.1.trans hml) a3 (lv_room (by omega)) d ⟨by omega, by omega⟩)
  · exact hk.elim
theorem s_callI (hz : Cx z cc nL own nm lv mc ms) (hC : CT y cc' nL' none lv' mc' ms' T) (hca : CaOK own ix y cc' nL' none n) (hw1 : Cond.instanceMethod y ∈ WS0) (hy1 : y.name = "<init>") (hlv : Nat.ble (lv' + 1) lv = true) (hnl : Nat.ble nL' 40 = true) (hcc : Nat.ble (cells + mc') mc = true) (hss : Nat.ble (slots + ms') ms = true) (o : OutOK z X (cells + mc') (slots + ms') pc) (d : decode cc pc = .ok (.invokespecial ix, 3)) (nx : Go z (cells + mc') (slots + ms') (pc + 3) k) : Go z cells slots pc (i_callI n T X k) := by
  obtain ⟨p, l, e, R, s, m, args, below, meth, c, Q, g⟩ := z
  obtain ⟨hx, hb, hml, hown, hts, hlk, hnm, hst, hRm, hB, hV⟩ := hz
  intro ls st h H locs la hk hP hS hl
  have g1 := Nat.le_of_ble_eq_true hlv
  have g2 := Nat.le_of_ble_eq_true hnl
  have g3 := Nat.le_of_ble_eq_true hcc
  have g4 := Nat.le_of_ble_eq_true hss
  unfold i_callI at hk
  split at hk
  · next b As rest e1 =>
    obtain ⟨hr4, hT⟩ := hk
    obtain ⟨A1, a1, a2, a3⟩ := popN_spec _ _ _ _ _ e1
    rw [List.append_nil] at a1
    subst a1
    have hM := hC l hst g _ h _ X hT
    have hlen : As.length = n := by simpa using a2
    have hcs := cat_sum rest
    exact run_go nx o hP hS hl (vx_runI (cells := cells) (slots := slots) (g := F0 m pc la st) (b := b) (As := As) (rest := rest) (locs := locs) ⟨hx, hb, hml, hown, hts⟩ hM ⟨callB_ws hts hca ⟨by omega, by omega⟩, hy1, hts _ hw1⟩ ⟨va_Pc_blind, pre_rp _ hB hV hP hS⟩ rfl hlen (hl.1.trans hml) (by rw [a3]; simp) (lv_room (by omega)) d ⟨by omega, by omega⟩)
  · exact hk.elim
/-- a nest mate's private static method -/
theorem s_callSN (hz : Cx z cc nL own nm lv mc ms) {host : String} (hC : CT y cc' nL' rt' lv' mc' ms' T) (hnw : Cond.methodLinkNest own ix y host = nwP ∨ Cond.methodLinkNest own ix y host = nwR) (hca : Cond.code y cc' nL' rt' ∈ WS0 ∧ Cond.initialized y.cls ∈ WS0 ∧ (y.cls ≠ "java/lang/invoke/MethodHandle" ∧ y.cls ≠ "java/lang/invoke/VarHandle" ∧ (parseMethodDescriptor y.desc).map (fun d => d.parameters.length) = some n)) (hw1 : Cond.static y ∈ WS0) (hlv : Nat.ble (lv' + 1) lv = true) (hnl : Nat.ble nL' 40 = true) (hcc : Nat.ble (cells + mc') mc = true) (hss : Nat.ble (slots + ms') ms = true) (o : OutOK z X (cells + mc') (slots + ms') pc) (d : decode cc pc = .ok (.invokestatic ix, 3)) (nx : Go z (cells + mc') (slots + ms') (pc + 3) k) : Go z cells slots pc (i_callS n T X k) := by
  obtain ⟨p, l, e, R, s, m, args, below, meth, c, Q, g⟩ := z
  obtain ⟨hx, hb, hml, hown, hts, hlk, hnm, hst, hRm, hB, hV⟩ := hz
  intro ls st h H locs la hk hP hS hl
  have g1 := Nat.le_of_ble_eq_true hlv
  have g2 := Nat.le_of_ble_eq_true hnl
  have g3 := Nat.le_of_ble_eq_true hcc
  have g4 := Nat.le_of_ble_eq_true hss
  unfold i_callS at hk
  split at hk
  · next As rest e1 =>
    obtain ⟨hr4, hT⟩ := hk
    obtain ⟨A1, a1, a2, a3⟩ := popN_spec _ _ _ _ _ e1
    rw [List.append_nil] at a1
    subst a1
    have hM := hC l hst g _ h _ X hT
    have hcs := cat_sum rest
    have hl9 : va_Nw (.methodLinkNest own ix y host) s := by
      rcases hnw with q | q <;> rw [q]
      · exact hV.2.2.1.1
      · exact hV.2.2.1.2.1
    exact run_go nx o hP hS hl (vx_runSN (cells := cells) (slots := slots) (g := F0 m pc la st) (As := As) (rest := rest) (locs := locs) ⟨hx, hb, hml, hown, hts⟩ hM ⟨va_cnB (rm := rmL lv' mc' ms') (mc := mc') (ms := ms') n hts (ws_in (fun _ h => h) hca.1) rfl rfl rfl hl9 (hts _ hca.2.1) hca.2.2 ⟨Nat.le_trans g1 hRm.1, by show 8 + (nL' + 11) + 64 * lv' ≤ R.locals; omega⟩, hts _ hw1, trivial⟩ ⟨va_Pc_blind, pre_rp _ hB hV hP hS⟩ rfl a2 (hl.1.trans hml) a3 (lv_room (by omega)) d ⟨by omega, by omega⟩)
  · exact hk.elim
end CALL2
section RET
variable {z : zT} {cc : ByteArray} {nL lv mc ms cells slots pc : Nat} {own nm : String} {rt : Option FieldType} {P : Option Value → hp_T → Prop} {X : String → hp_T → Prop}
def i_iret (P : Option Value → hp_T → Prop) : KT := fun _ st h => match st with
  | [.int v] => P (some (.int v)) h
  | _ => False
def i_zret (P : Option Value → hp_T → Prop) : KT := fun _ st h => match st with
  | [.int v] => v &&& 1 = v ∧ P (some (.int v)) h
  | _ => False
def i_aret (P : Option Value → hp_T → Prop) : KT := fun _ st h => match st with
  | [v] => isRf v ∧ P (some v) h
  | _ => False
def i_vret (P : Option Value → hp_T → Prop) : KT := fun _ st h => match st with
  | [] => P none h
  | _ => False
def i_throw (E : String) (X : String → hp_T → Prop) : KT := fun _ st h => st.length ≤ 4 ∧ X E h
theorem s_iret (hz : Cx z cc nL own nm lv mc ms) (hr : Rt z (some .int) P X mc ms) (hc : Nat.ble cells mc = true) (hs : Nat.ble slots ms = true) (d : decode cc pc = .ok (.ireturn, 1)) : Go z cells slots pc (i_iret P) := by
  obtain ⟨p, l, e, R, s, m, args, below, meth, c, Q, g⟩ := z
  obtain ⟨hx, hb, hml, hown, hts, hlk, hnm, hst, hRm, hB, hV⟩ := hz
  obtain ⟨r1, r2, rfl⟩ := hr
  intro ls st h H locs la hk hP hS hl
  unfold i_iret at hk
  split at hk
  · exact W.widen (Nat.le_of_ble_eq_true hc) (Nat.le_of_ble_eq_true hs) (vx_ret (W.iret hx hb r2 (fun t ht hW => ⟨⟨_, h, rfl, hk, by rw [ht]; exact hP⟩, hS.F ht⟩) hS.2.2 d (hlocks := hlk)))
  · exact hk.elim
theorem s_zret (hz : Cx z cc nL own nm lv mc ms) (hr : Rt z (some .boolean) P X mc ms) (hc : Nat.ble cells mc = true) (hs : Nat.ble slots ms = true) (d : decode cc pc = .ok (.ireturn, 1)) : Go z cells slots pc (i_zret P) := by
  obtain ⟨p, l, e, R, s, m, args, below, meth, c, Q, g⟩ := z
  obtain ⟨hx, hb, hml, hown, hts, hlk, hnm, hst, hRm, hB, hV⟩ := hz
  obtain ⟨r1, r2, rfl⟩ := hr
  intro ls st h H locs la hk hP hS hl
  unfold i_zret at hk
  split at hk
  · exact W.widen (Nat.le_of_ble_eq_true hc) (Nat.le_of_ble_eq_true hs) (vx_ret (W.zret hx hb r2 (narrow_z hk.1) (fun t ht hW => ⟨⟨_, h, rfl, hk.2, by rw [ht]; exact hP⟩, hS.F ht⟩) hS.2.2 d (hlocks := hlk)))
  · exact hk.elim
theorem s_aret (hz : Cx z cc nL own nm lv mc ms) (hr : Rt z rt P X mc ms) (hrt : (∃ n, rt = some (.object n)) ∨ ∃ t, rt = some (.array t)) (hc : Nat.ble cells mc = true) (hs : Nat.ble slots ms = true) (d : decode cc pc = .ok (.areturn, 1)) : Go z cells slots pc (i_aret P) := by
  obtain ⟨p, l, e, R, s, m, args, below, meth, c, Q, g⟩ := z
  obtain ⟨hx, hb, hml, hown, hts, hlk, hnm, hst, hRm, hB, hV⟩ := hz
  obtain ⟨r1, r2, rfl⟩ := hr
  intro ls st h H locs la hk hP hS hl
  unfold i_aret at hk
  split at hk
  · rcases hrt with ⟨q, rfl⟩ | ⟨q, rfl⟩
    · exact W.widen (Nat.le_of_ble_eq_true hc) (Nat.le_of_ble_eq_true hs) (vx_ret (W.aret hx hb r2 (Or.inl ⟨q, rfl⟩) hk.1 (fun t ht hW => ⟨⟨_, h, rfl, hk.2, by rw [ht]; exact hP⟩, hS.F ht⟩) hS.2.2 d (hlocks := hlk)))
    · exact W.widen (Nat.le_of_ble_eq_true hc) (Nat.le_of_ble_eq_true hs) (vx_ret (W.aret hx hb r2 (Or.inr ⟨q, rfl⟩) hk.1 (fun t ht hW => ⟨⟨_, h, rfl, hk.2, by rw [ht]; exact hP⟩, hS.F ht⟩) hS.2.2 d (hlocks := hlk)))
  · exact hk.elim
theorem s_vret (hz : Cx z cc nL own nm lv mc ms) (hr : Rt z none P X mc ms) (hc : Nat.ble cells mc = true) (hs : Nat.ble slots ms = true) (d : decode cc pc = .ok (.return_, 1)) : Go z cells slots pc (i_vret P) := by
  obtain ⟨p, l, e, R, s, m, args, below, meth, c, Q, g⟩ := z
  obtain ⟨hx, hb, hml, hown, hts, hlk, hnm, hst, hRm, hB, hV⟩ := hz
  obtain ⟨r1, r2, rfl⟩ := hr
  intro ls st h H locs la hk hP hS hl
  unfold i_vret at hk
  split at hk
  · exact W.widen (Nat.le_of_ble_eq_true hc) (Nat.le_of_ble_eq_true hs) (vx_ret (W.vret hx hb r2 (fun t ht hW => ⟨⟨_, h, rfl, hk, by rw [ht]; exact hP⟩, hS.F ht⟩) hS.2.2 d (hlocks := hlk)))
  · exact hk.elim
def exNames : List String := ["java/lang/RuntimeException", "java/lang/Exception"]
def ThOK (cls : String) (ik ic : Nat) : Prop := Bundle.fit cls = true ∧ Cond.classLink "Panelry" ik cls ∈ WS0 ∧ Cond.initialized cls ∈ WS0 ∧ (∀ w ∈ vx_atS "Panelry" ic cls exNames, w ∈ lw_tbl ∧ (goodWord w = true ∨ cdW w = true)) ∧ (∀ w ∈ Cond.classLink "Panelry" ik cls :: Cond.initialized cls :: vx_atS "Panelry" ic cls exNames, vx_ot w = true)
theorem thI : ThOK "java/lang/IndexOutOfBoundsException" 94 98 := ⟨by decide +kernel, ws0_in (by decide +kernel) (by decide +kernel), ws0_in (by decide +kernel) (by decide +kernel), by decide +kernel, by decide +kernel⟩
theorem th_hat {cls : String} {ik ic : Nat} {s : State} {args : Array Value} (h : ThOK cls ik ic) (hts : ∀ w ∈ WS0, w.before args s = true) (hcd : ∀ w ∈ lw_tbl, cdW w = true → va_Nw w s) : ∀ w ∈ vx_atS "Panelry" ic cls exNames, w.before args s = true := by
  intro w hw
  obtain ⟨h1, h2 | h2⟩ := h.2.2.2.1 w hw
  · exact hts _ (ws0_in h1 h2)
  · have h3 := hcd w h1 h2
    cases w <;> first | (exact va_Nw.use rfl h3) | (cases h2)
theorem s_throw (hz : Cx z cc nL "Panelry" nm lv mc ms) (hr : Rt z rt P X mc ms) {cls tx : String} {ik ic is : Nat} (ht : ThOK cls ik ic) (hstr : (is, tx) ∈ strTab) (hlv : Nat.ble 6 lv = true) (hc : Nat.ble (cells + 1) mc = true) (hs : Nat.ble (slots + 6) ms = true) (d0 : decode cc pc = .ok (.new ik, 3)) (d3 : decode cc (pc + 3) = .ok (.dup, 1)) (d4 : decode cc (pc + 4) = .ok (.ldc is, 2)) (d6 : decode cc (pc + 6) = .ok (.invokespecial ic, 3)) (d9 : decode cc (pc + 9) = .ok (.athrow, 1)) : Go z cells slots pc (i_throw cls X) := by
  obtain ⟨p, l, e, R, s, m, args, below, meth, c, Q, g⟩ := z
  obtain ⟨hx, hb, hml, hown, hts, hlk, hnm, hst, hRm, hB, hV⟩ := hz
  obtain ⟨r1, r2, rfl⟩ := hr
  intro ls st h H locs la hk hP hS hl
  obtain ⟨hk4, hk⟩ := hk
  have g1 := Nat.le_of_ble_eq_true hlv
  have g3 := Nat.le_of_ble_eq_true hc
  have g4 := Nat.le_of_ble_eq_true hs
  have hcs := cat_sum st
  obtain ⟨sa, hsa⟩ := hV.2.1 _ hstr
  exact vx_throwS hx hb hst hown ht.1 (by decide) (hts _ ht.2.1) (hts _ ht.2.2.1) hsa (th_hat ht hts hV.2.2.2.1) ht.2.2.2.2 hV.2.2.2.2.2.1 hV.2.2.2.2.2.2.1 hS hl.1 d0 d3 d4 d6 d9 (fun x hx => (r1 x hx).elim) (by show 2 + 3 < R.frames; omega) (by show _ + (13 * (2 + 1) + 43) ≤ R.locals; omega) (by omega) (by omega) hlk
    (fun t _ hz ho => ⟨⟨h, hk, rp_ext hP ho⟩, Nat.le_trans hS.1 hz, fun q q1 q2 => (ho q (Nat.lt_of_lt_of_le q1 hS.1)).trans (hS.2.1 q q1 q2)⟩) hS.2.2 g3 g4
theorem s_throwW (hz : Cx z cc nL "Panelry" nm lv mc ms) (hr : Rt z rt P X mc ms) {cls tx : String} {ik ic is : Nat} (ht : ThOK cls ik ic) (hstr : (is, tx) ∈ strTab) (hlv : Nat.ble 6 lv = true) (hc : Nat.ble (cells + 1) mc = true) (hs : Nat.ble (slots + 6) ms = true) (d0 : decode cc pc = .ok (.new ik, 3)) (d3 : decode cc (pc + 3) = .ok (.dup, 1)) (d4 : decode cc (pc + 4) = .ok (.ldc_w is, 3)) (d7 : decode cc (pc + 7) = .ok (.invokespecial ic, 3)) (d10 : decode cc (pc + 10) = .ok (.athrow, 1)) : Go z cells slots pc (i_throw cls X) := by
  obtain ⟨p, l, e, R, s, m, args, below, meth, c, Q, g⟩ := z
  obtain ⟨hx, hb, hml, hown, hts, hlk, hnm, hst, hRm, hB, hV⟩ := hz
  obtain ⟨r1, r2, rfl⟩ := hr
  intro ls st h H locs la hk hP hS hl
  obtain ⟨hk4, hk⟩ := hk
  have g1 := Nat.le_of_ble_eq_true hlv
  have g3 := Nat.le_of_ble_eq_true hc
  have g4 := Nat.le_of_ble_eq_true hs
  have hcs := cat_sum st
  obtain ⟨sa, hsa⟩ := hV.2.1 _ hstr
  exact vx_throwSW hx hb hst hown ht.1 (by decide) (hts _ ht.2.1) (hts _ ht.2.2.1) hsa (th_hat ht hts hV.2.2.2.1) ht.2.2.2.2 hV.2.2.2.2.2.1 hV.2.2.2.2.2.2.1 hS hl.1 d0 d3 d4 d7 d10 (fun x hx => (r1 x hx).elim) (by show 2 + 3 < R.frames; omega) (by show _ + (13 * (2 + 1) + 43) ≤ R.locals; omega) (by omega) (by omega) hlk
    (fun t _ hz ho => ⟨⟨h, hk, rp_ext hP ho⟩, Nat.le_trans hS.1 hz, fun q q1 q2 => (ho q (Nat.lt_of_lt_of_le q1 hS.1)).trans (hS.2.1 q q1 q2)⟩) hS.2.2 g3 g4
end RET
/-! a contract out of the walk of a body -/
def lent (nL : Nat) (av : List Value) : List (Option Value) := av.map some ++ List.replicate (nL - av.length) none
theorem lget_ent (av : List Value) (x : List (Option Value)) (hx : ∀ j v, lget x j ≠ some v) : ∀ j v, lget (av.map some ++ x) j = some v → av[j]? = some v := by
  induction av with
  | nil => intro j v h; exact absurd h (hx j v)
  | cons a r ih =>
    intro j v h
    cases j with
    | zero => simpa [lget] using h
    | succ j => simp only [List.map_cons, List.cons_append, lget] at h; simpa using ih j v h
theorem lget_rep : ∀ (n j : Nat) (v : Value), lget (List.replicate n none) j ≠ some v
  | 0, j, v, h => by simp [lget] at h
  | n + 1, 0, v, h => by simp [List.replicate_succ, lget] at h
  | n + 1, j + 1, v, h => by simp only [List.replicate_succ, lget] at h; exact lget_rep n j v h
theorem lv_args_at : ∀ (vs : List Value) (i j : Nat) (v : Value), (∀ w ∈ vs, w.category = 1) → vs[j]? = some v → (i + j, v) ∈ lv_args i vs
  | [], i, j, v, _, h => by simp at h
  | a :: r, i, j, v, hc, h => by
    have ha := hc a List.mem_cons_self
    cases j with
    | zero =>
      simp at h; subst h
      simp [lv_args]
    | succ j =>
      simp at h
      have := lv_args_at r (i + 1) j v (fun w hw => hc w (List.mem_cons_of_mem _ hw)) h
      simp only [lv_args, ha]
      refine List.mem_cons_of_mem _ ?_
      rw [show i + (j + 1) = i + 1 + j by omega]
      exact this
theorem lg_len : ∀ vs : List Value, (∀ w ∈ vs, w.category = 1) → (lg_sl vs).length = vs.length
  | [], _ => rfl
  | a :: r, hc => by
    have h1 := lg_len r (fun w hw => hc w (List.mem_cons_of_mem _ hw))
    have ha := hc a List.mem_cons_self
    unfold lg_sl at h1 ⊢
    simp only [List.flatMap_cons, List.length_append, h1, ha, List.length_cons]
    simp; omega
theorem ct_of {y : MethodName} {cc : ByteArray} {nL lv mc ms : Nat} {rt : Option FieldType} {T : PT} (hy : plainName y.cls = true) (kk : (Option Value → hp_T → Prop) → (String → hp_T → Prop) → KT)
    (hG : ∀ (z : zT) (P : Option Value → hp_T → Prop) (X : String → hp_T → Prop), Cx z cc nL y.cls y.name lv mc ms → Rt z rt P X mc ms → Go z 0 0 0 (kk P X))
    (hT : ∀ av h P X, T av h P X → (av.length ≤ nL ∧ ∀ w ∈ av, isC1 w) ∧ kk P X (lent nL av) [] h) : CT y cc nL rt lv mc ms T := by
  intro l hst g av h P X hTT
  obtain ⟨⟨hlen, hcat⟩, hk⟩ := hT av h P X hTT
  have hcat1 : ∀ w ∈ av, w.category = 1 := fun w hw => (hcat w hw).cat
  refine vx_ofW (cc := cc) (maxL := nL) (ret := rt) hy rfl ?_
  intro p e s m args below meth c s₁ B hml hex hv
  obtain ⟨rfl, hB, hP, hV⟩ := hv
  have hts := atoms_spec (ws := WS y cc nL rt) B.pre
  have hCx : Cx (p, l, e, (headSpec (WS y cc nL rt) (rmL lv mc ms)).room, s, m, av.toArray, below, meth, c, vx_MQ below (QNf g P) (XNf g X) av.toArray s mc ms (gA g), g) cc nL y.cls y.name lv mc ms :=
    ⟨B.exec, B.bytes, hml, findClass_of_methodNamed B.named, fun w hw => hts w (List.mem_cons_of_mem _ hw), B.notSynchronized, (name_of_methodNamed B.named B.method).1, hst, ⟨Nat.le_refl _, Nat.le_refl _, Nat.le_refl _, Nat.le_refl _⟩, hB, hV⟩
  have hRt : Rt (p, l, e, (headSpec (WS y cc nL rt) (rmL lv mc ms)).room, s, m, av.toArray, below, meth, c, vx_MQ below (QNf g P) (XNf g X) av.toArray s mc ms (gA g), g) rt P X mc ms := ⟨hex, B.returns, rfl⟩
  have hGo := hG _ P X hCx hRt
  have hls : (lg_sl av).length ≤ nL := by rw [lg_len av hcat1]; exact hlen
  have hl := lv_entry av hls
  rw [lg_entry_eq]
  refine hGo (lent nL av) [] h s.heap [] _ hk hP va_S.rf ⟨hl.1.trans hml.symm, hl.2.1, fun i v hi => ?_⟩
  have h1 := lget_ent av _ (lget_rep _) i v hi
  refine ⟨hcat1 v (List.mem_of_getElem? h1), ?_⟩
  have h2 := lv_args_at av 0 i v hcat1 h1
  rw [Nat.zero_add] at h2
  exact hl.2.2 _ h2
