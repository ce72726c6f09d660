/-! the words that all methods share, what the machine is, a method's place -/
def WS0 : List Cond := lw_tbl.filter goodWord
theorem ws0_of (i : Nat) {w : Cond} (h : lw_tbl[i]? = some w) (g : goodWord w = true) : w ∈ WS0 := List.mem_filter.mpr ⟨List.mem_of_getElem? h, g⟩
theorem ws0_in {w : Cond} (h : w ∈ lw_tbl) (g : goodWord w = true) : w ∈ WS0 := List.mem_filter.mpr ⟨h, g⟩
theorem ws0_good {w : Cond} (h : w ∈ WS0) : (w.onTables && w.keeps) = true ∨ ∃ ty, w = .arrayClass ty := good_of_word (List.mem_filter.mp h).2
def WS (y : MethodName) (cc : ByteArray) (nL : Nat) (rt : Option FieldType) : List Cond := Cond.code y cc nL rt :: WS0
theorem ws_in {y : MethodName} {cc : ByteArray} {nL : Nat} {rt : Option FieldType} {Ts : List Cond} (h0 : ∀ w ∈ WS0, w ∈ Ts) (hc : Cond.code y cc nL rt ∈ WS0) : GoodIn Ts (WS y cc nL rt) := by
  intro w hw
  rcases List.mem_cons.mp hw with e | e
  · rw [e]; exact ⟨h0 _ hc, ws0_good hc⟩
  · exact ⟨h0 _ e, ws0_good e⟩
abbrev gT : Type := Nat × va_G × (Nat → ClassId) × Nat × Nat
def gA (g : gT) : Nat → Prop := fun q => g.1 ≤ q
def gTys (g : gT) : List (ClassId × FieldType) := [(g.2.2.1 0, .int), (g.2.2.1 1, .boolean), (g.2.2.1 2, .long), (g.2.2.1 3, .object "java/lang/Object"), (g.2.2.1 4, .object "Panelry$Face")]
def strTab : List (Nat × String) := [(129, "the house has all its figures"), (146, "the face does not lie within the panel"), (160, "the page has all its balloons"), (222, "the house has all its tellings"), (249, "there are no weeks behind the last one"), (257, "the page is not at the last stage"), (267, "an argument is out of range"), (269, "the page was printed"), (271, "no such fact"), (273, "no such figure"), (275, "no such page"), (277, "no such panel"), (279, "no such balloon"), (281, "the house has all its pages"), (54, "the panel does not lie on the page"), (72, "the page has all its panels"), (79, "the panel overlaps another one"), (96, "no such place in the reading")]
def cdW : Cond → Bool
  | .castable _ _ => true
  | .declares _ => true
  | _ => false
theorem cdW_warm {w : Cond} {s U : State} (hc : cdW w = true) (hW : s.WarmedH U.vm) (h : va_Nw w s) : va_Nw w U := by
  cases w <;> first | (exact va_Nw.warmC hW h) | (exact va_Nw.warmD hW h) | (cases hc)
abbrev nwP : Cond := .methodLinkNest "Panelry$Page" 45 yX8_isIn "Panelry"
abbrev nwR : Cond := .methodLinkNest "Panelry$Reading" 86 yX8_isIn "Panelry"
abbrev nwD : Cond := .fieldLinkNest "Panelry" 109 "Panelry$Reading" "doubtCount" "I" "Panelry"
abbrev gRPh (g : gT) (h : hp_T) (H : Heap) : Prop := RPh g.1 g.2.1 g.2.2.1 g.2.2.2 h H
def VMx (g : gT) (U : State) : Prop :=
  va_K g.2.1 vwCl (gTys g) U ∧ (∀ q ∈ strTab, ∃ sa, vk_R "Panelry" q.1 q.2 sa U) ∧ (va_Nw nwP U ∧ va_Nw nwR U ∧ va_Nw nwD U) ∧ (∀ w ∈ lw_tbl, cdW w = true → va_Nw w U) ∧
  (va_AO "java/lang/Object" U ∧ va_AO "Panelry$Face" U ∧ va_Dc U ∧ va_Mi "[Ljava/lang/Object;" g.2.2.2.2 U) ∧
  vx_Zq Bundle.tN "UNASSIGNED_STACK" Bundle.steD (gA g) U U.heap ∧ vx_Zq Bundle.tN "SUPPRESSED_SENTINEL" Bundle.listD (gA g) U U.heap ∧
  va_Z "java/util/ArrayList" "DEFAULTCAPACITY_EMPTY_ELEMENTDATA" "[Ljava/lang/Object;" (.ref g.2.2.2.1) (gA g) U U.heap
theorem VMx.moved {g : gT} {s U : State} (hW : s.WarmedH U.vm) (hk : ∀ q : Nat, q < s.heap.size → ¬ gA g q → U.heap[q]? = s.heap[q]?) (h : VMx g s) : VMx g U := by
  obtain ⟨h1, h2, ⟨h3, h4, h5⟩, h6, ⟨h7, h8, h9, h10⟩, h11, h12, h13⟩ := h
  have hv : s.vm.Alike U.vm := hW.alike
  exact ⟨va_K.moved hv h1, fun q hq => (h2 q hq).elim (fun sa r => ⟨sa, vk_R.warm hW r⟩), ⟨va_Nw.warmM hW h3, va_Nw.warmM hW h4, va_Nw.warmF hW h5⟩, fun w hw hc => cdW_warm hc hW (h6 w hw hc),
    ⟨va_AO.moved hv h7, va_AO.moved hv h8, va_Dc.moved hv h9, va_Mi.moved hv h10⟩, (vx_Zq.moved hv h11).kept hk, (vx_Zq.moved hv h12).kept hk, (va_Z.moved hv h13).kept hk⟩
def RP (g : gT) (h : hp_T) (U : State) : Prop := g.1 ≤ U.heap.size ∧ gRPh g h U.heap ∧ VMx g U
def rmL (lv mc ms : Nat) : Room := { frames := lv, cells := mc, slots := ms, locals := 64 * lv }
/-! locals by their places -/
def lget : List (Option Value) → Nat → Option Value
  | [], _ => none
  | x :: _, 0 => x
  | _ :: r, n + 1 => lget r n
def lset : List (Option Value) → Nat → Value → List (Option Value)
  | [], _, _ => []
  | _ :: r, 0, v => some v :: r
  | x :: r, n + 1, v => x :: lset r n v
theorem lget_lset : ∀ (ls : List (Option Value)) (i : Nat) (v : Value) (j : Nat) (w : Value), lget (lset ls i v) j = some w → (j = i ∧ w = v) ∨ (j ≠ i ∧ lget ls j = some w)
  | [], i, v, j, w, h => by simp [lset, lget] at h
  | x :: r, 0, v, 0, w, h => by simp only [lset, lget] at h; exact Or.inl ⟨rfl, (Option.some.inj h).symm⟩
  | x :: r, 0, v, j + 1, w, h => by simp only [lset, lget] at h ⊢; exact Or.inr ⟨by omega, h⟩
  | x :: r, i + 1, v, 0, w, h => by simp only [lset, lget] at h ⊢; exact Or.inr ⟨by omega, h⟩
  | x :: r, i + 1, v, j + 1, w, h => by
    simp only [lset, lget] at h ⊢
    rcases lget_lset r i v j w h with ⟨e1, e2⟩ | ⟨e1, e2⟩
    · exact Or.inl ⟨by omega, e2⟩
    · exact Or.inr ⟨by omega, e2⟩
theorem lget_lt : ∀ (ls : List (Option Value)) (j : Nat) (w : Value), lget ls j = some w → j < ls.length
  | [], j, w, h => by simp [lget] at h
  | x :: r, 0, w, h => by simp
  | x :: r, j + 1, w, h => by
    simp only [lget] at h
    have := lget_lt r j w h
    simp only [List.length_cons]; omega
def lasc (ls : List (Option Value)) : List (Nat × Value) := (List.range ls.length).filterMap (fun j => (lget ls j).map (fun v => (j, v)))
theorem lasc_mem {ls : List (Option Value)} {j : Nat} {w : Value} : (j, w) ∈ lasc ls ↔ lget ls j = some w := by
  unfold lasc
  rw [List.mem_filterMap]
  constructor
  · rintro ⟨i, -, hi⟩
    cases e : lget ls i with
    | none => rw [e] at hi; cases hi
    | some v => rw [e] at hi; cases hi; exact e
  · intro h
    exact ⟨j, List.mem_range.mpr (lget_lt ls j w h), by rw [h]; rfl⟩
/-- the machine's locals hold these -/
def lvh (la : Array Slot) (nL : Nat) (ls : List (Option Value)) : Prop := la.size = nL ∧ lv_wf la ∧ ∀ i v, lget ls i = some v → v.category = 1 ∧ la[i]? = some (.val v)
theorem lvh.has {la : Array Slot} {nL : Nat} {ls : List (Option Value)} (h : lvh la nL ls) : lv_has la nL (lasc ls) := ⟨h.1, h.2.1, fun q hq => (h.2.2 q.1 q.2 (lasc_mem.mp hq)).2⟩
theorem lvh.set {la' : Array Slot} {nL : Nat} {la : Array Slot} {ls : List (Option Value)} {i : Nat} {v : Value} (h : lvh la nL ls) (hc : v.category = 1) (h' : lv_has la' nL ((i, v) :: (lasc ls).filter (fun q => !(q.1 == i) && !(q.1 + 1 == i && q.2.category == 2)))) : lvh la' nL (lset ls i v) := by
  refine ⟨h'.1, h'.2.1, fun j w hj => ?_⟩
  rcases lget_lset ls i v j w hj with ⟨e1, e2⟩ | ⟨e1, e2⟩
  · subst e1; subst e2
    exact ⟨hc, h'.2.2 (j, w) List.mem_cons_self⟩
  · have h1 := (h.2.2 j w e2).1
    refine ⟨h1, h'.2.2 (j, w) (List.mem_cons_of_mem _ (List.mem_filter.mpr ⟨lasc_mem.mpr e2, ?_⟩))⟩
    simp [e1, h1]
/-! the judgement -/
abbrev KT : Type := List (Option Value) → List Value → hp_T → Prop
abbrev zT : Type := Program × Launch × Env × Room × State × MethodId × Array Value × List Frame × Method × Code × (State → Prop) × gT
def Go (z : zT) (cells slots pc : Nat) (k : KT) : Prop := match z with
  | (p, l, e, R, s, m, args, below, meth, c, Q, g) => ∀ (ls : List (Option Value)) (st : List Value) (h : hp_T) (H : Heap) (locs : List Loc) (la : Array Slot), k ls st h → gRPh g h H → va_S (gA g) s.heap H locs → lvh la c.maxLocals ls → W p l e R s m args below meth c H locs cells slots Q (F0 m pc la st)
def Cx (z : zT) (cc : ByteArray) (nL : Nat) (own nm : String) (lv mc ms : Nat) : Prop := match z with
  | (p, l, _, R, s, m, args, _, meth, c, _, g) => p.tables.exec = Jvm.exec ∧ c.code = cc ∧ c.maxLocals = nL ∧ s.vm.findClass own = some m.cls ∧ (∀ w ∈ WS0, w.before args s = true) ∧ meth.locks = false ∧ meth.name = nm ∧ l.stackTraces = false ∧ (lv ≤ R.frames ∧ 64 * lv ≤ R.locals ∧ mc ≤ R.cells ∧ ms ≤ R.slots) ∧ g.1 ≤ s.heap.size ∧ VMx g s
theorem Go.mono {z : zT} {cells slots pc : Nat} {k k' : KT} (h : Go z cells slots pc k) (i : ∀ ls st hh, k' ls st hh → k ls st hh) : Go z cells slots pc k' := by
  obtain ⟨p, l, e, R, s, m, args, below, meth, c, Q, g⟩ := z
  exact fun ls st hh H locs la hk => h ls st hh H locs la (i _ _ _ hk)
theorem Go.widen {z : zT} {cells slots pc : Nat} {k : KT} (c' s' : Nat) (h : Go z c' s' pc k) (h1 : cells ≤ c') (h2 : slots ≤ s') : Go z cells slots pc k := by
  obtain ⟨p, l, e, R, s, m, args, below, meth, c, Q, g⟩ := z
  exact fun ls st hh H locs la hk hR hS hl => W.widen h1 h2 (h ls st hh H locs la hk hR hS hl)
theorem Go.fls {z : zT} {cells slots pc : Nat} : Go z cells slots pc (fun _ _ _ => False) := by
  obtain ⟨p, l, e, R, s, m, args, below, meth, c, Q, g⟩ := z
  exact fun ls st hh H locs la hk => hk.elim
/-- a loop: the invariant with a measure -/
theorem Go.loop {z : zT} {cells slots pc : Nat} (I : Nat → KT) (F : KT → KT) (step : ∀ k, Go z cells slots pc k → Go z cells slots pc (F k)) (hI : ∀ n ls st h, I n ls st h → F (fun ls st h => ∃ n', n' < n ∧ I n' ls st h) ls st h) : Go z cells slots pc (fun ls st h => ∃ n, I n ls st h) := by
  have key : ∀ n, Go z cells slots pc (fun ls st h => ∃ n', n' < n ∧ I n' ls st h) := by
    intro n
    induction n with
    | zero => exact Go.fls.mono (fun ls st h ⟨n', a, _⟩ => absurd a (Nat.not_lt_zero _))
    | succ n ih =>
      have ih2 := step _ ih
      obtain ⟨p, l, e, R, s, m, args, below, meth, c, Q, g⟩ := z
      intro ls st h H locs la hk
      obtain ⟨n', a, b⟩ := hk
      rcases Nat.lt_or_ge n' n with q | q
      · exact ih ls st h H locs la ⟨n', q, b⟩
      · have e : n' = n := by omega
        subst e
        exact ih2 ls st h H locs la (hI n' ls st h b)
  obtain ⟨p, l, e, R, s, m, args, below, meth, c, Q, g⟩ := z
  exact fun ls st hh H locs la ⟨n, hk⟩ => key (n + 1) ls st hh H locs la ⟨n, Nat.lt_succ_self n, hk⟩
