theorem ws0_tbl {w : Cond} (h : w ∈ WS0) : w ∈ lw_tbl := (List.mem_filter.mp h).1
theorem kn_of {ci N n : Nat} {C : String} {T : u_T} {fl : List Bool} {s : State} {args : Array Value} (hc : ClsOK ci C T N fl) (hts : ∀ w ∈ lw_tbl, w.before args s = true) (hi : Cond.instantiable C n ∈ lw_tbl) : ∃ x : ClassId × (Nat → Nat), ∀ q : vw_C, vwCl[ci]? = some q → u_Kn s q.1 q.2.1 q.2.2 x.1 x.2 := by
  obtain ⟨c0, i0, h⟩ := u_known (C := C) (T := T) (N := N) (n := n) hts (fun w hw => ws0_tbl (hc.2.1 w hw)) (hts _ hi)
  exact ⟨(c0, i0), fun q hq => by cases hc.1.symm.trans hq; exact h⟩
theorem len0 {args : Array Value} {s : State} {t : Term} (h : (Term.length t).eval args s none [] s = some (.int 0)) : ∃ a cell, t.eval args s none [] s = some (.ref a) ∧ s.arrayAt? a = some cell ∧ cell.slots.size = 0 := by
  simp only [Term.eval, Option.bind_eq_bind] at h
  cases ht : t.eval args s none [] s with
  | none => simp [ht] at h
  | some x =>
    cases x <;> simp [ht] at h
    case ref a =>
      obtain ⟨cell, hcell, h⟩ := Option.bind_eq_some_iff.mp h
      by_cases hn : cell.slots.size < 2147483648
      · rw [if_pos hn] at h
        refine ⟨a, cell, rfl, hcell, ?_⟩
        have h1 : (Int32.ofNat cell.slots.size).toInt = cell.slots.size := Int32.toInt_ofNat_of_lt (by omega)
        have e : Int32.ofNat cell.slots.size = 0 := Value.int.inj (Option.some.inj h)
        rw [e] at h1
        have z : (0 : Int32).toInt = 0 := rfl
        omega
      · rw [if_neg hn] at h; cases h
theorem prim_of {s : State} {args : Array Value} {ty : FieldType} (h : (Cond.arrayClass ty).before args s = true) : ∃ cA : ClassId, ArrOfT s cA ty ∧ s.vm.findClass ("[" ++ ty.toString) = some cA := by
  obtain ⟨cA, kA, comp, h1, h2, h3⟩ := Cond.arrayClass_spec h
  exact ⟨cA, fun n z => ⟨(fun k h => by cases h), kA, h2, comp, h3⟩, h1⟩
theorem obj_of {s : State} {args : Array Value} {C : String} (h : (Cond.arrayOver (.object C)).before args s = true) : ∃ cA : ClassId, ArrOfT s cA (.object C) ∧ va_RA s cA (.object C) := by
  obtain ⟨comp, cA, kA, h1, -, h2, h3, h4⟩ := Cond.arrayOver_spec h
  exact ⟨cA, fun n z => ⟨(fun k h => by cases h), kA, h2, comp, h3⟩, kA, comp, h2, h3, h1, h4⟩
/-- what the house, the reference and the law know of the machine, from the statement's premises -/
theorem vm_start {p : Program} {s : State} {m : MethodId} {meth : Method} {c : Code} {b L : Nat} {xs : Nat → Int32} (C0 : lw_At p s m meth c b L xs) : ∃ g : gT, g.1 = s.heap.size ∧ VMx g s ∧ NCs s ∧ ∃ h0 : hp_T, gRPh g h0 s.heap ∧ (∀ a, hK h0 a = 0 ∨ hK h0 a = 190) ∧ hK h0 (hC h0 0) = 190 ∧ hN h0 (hC h0 0) = 0 := by
  obtain ⟨hx, hb, hr, hml, hown, hts, hX, hbl, hlocks, hgv⟩ := C0
  have hg := flat_of_before _ hgv
  obtain ⟨f, hf⟩ : ∃ f : Nat → ClassId × (Nat → Nat), ∀ (k : Nat) (q : vw_C), vwCl[k]? = some q → u_Kn s q.1 q.2.1 q.2.2 (f k).1 (f k).2 := by
    refine Classical.axiomOfChoice (r := fun k (x : ClassId × (Nat → Nat)) => ∀ q : vw_C, vwCl[k]? = some q → u_Kn s q.1 q.2.1 q.2.2 x.1 x.2) (fun k => ?_)
    match k with
    | 0 => exact kn_of cls0 hts (t_1 _ (List.mem_of_getElem? (i := 36) rfl))
    | 1 => exact kn_of cls1 hts (t_3 _ (List.mem_of_getElem? (i := 128) rfl))
    | 2 => exact kn_of cls2 hts (t_2 _ (List.mem_of_getElem? (i := 175) rfl))
    | 3 => exact kn_of cls3 hts (t_3 _ (List.mem_of_getElem? (i := 98) rfl))
    | 4 => exact kn_of cls4 hts (t_2 _ (List.mem_of_getElem? (i := 36) rfl))
    | 5 => exact kn_of cls5 hts (t_2 _ (List.mem_of_getElem? (i := 233) rfl))
    | 6 => exact kn_of cls6 hts (t_1 _ (List.mem_of_getElem? (i := 111) rfl))
    | 7 => exact kn_of cls7 hts (t_3 _ (List.mem_of_getElem? (i := 237) rfl))
    | 8 => exact kn_of cls8 hts (t_4 _ (List.mem_of_getElem? (i := 78) rfl))
    | 9 => exact kn_of cls9 hts (t_1 _ (List.mem_of_getElem? (i := 28) rfl))
    | 10 => exact kn_of cls10 hts (t_4 _ (List.mem_of_getElem? (i := 177) rfl))
    | k + 11 => exact ⟨(0, fun _ => 0), fun q hq => by simp [vwCl] at hq⟩
  obtain ⟨a0, r0, n0⟩ := prim_of (hts (.arrayClass .int) (t_1 _ (List.mem_of_getElem? (i := 134) rfl)))
  obtain ⟨a1, r1, n1⟩ := prim_of (hts (.arrayClass .boolean) (t_5 _ (List.mem_of_getElem? (i := 69) rfl)))
  obtain ⟨a2, r2, n2⟩ := prim_of (hts (.arrayClass .long) (t_5 _ (List.mem_of_getElem? (i := 227) rfl)))
  obtain ⟨a3, r3, n3⟩ := obj_of (hts (.arrayOver (.object "java/lang/Object")) (t_2 _ (List.mem_of_getElem? (i := 118) rfl)))
  obtain ⟨a4, r4, n4⟩ := obj_of (hts (.arrayOver (.object "Panelry$Face")) (t_2 _ (List.mem_of_getElem? (i := 239) rfl)))
  obtain ⟨mi, hmi⟩ := va_Mi.of (C := "[Ljava/lang/Object;") (hg (.isRef (.mirror "[Ljava/lang/Object;")) (by decide +kernel))
  obtain ⟨em, cell, t1, t2, t3⟩ := len0 (t := .static "java/util/ArrayList" "DEFAULTCAPACITY_EMPTY_ELEMENTDATA" "[Ljava/lang/Object;") (va_eqt (hg (.eq (.length (.static "java/util/ArrayList" "DEFAULTCAPACITY_EMPTY_ELEMENTDATA" "[Ljava/lang/Object;")) (.int 0)) (by decide +kernel)))
  obtain ⟨t4, t5, t6, -⟩ := State.arrayAt?_spec t2
  obtain ⟨em2, c2, cell2, k2, u1, u2, u3, u4, u5, u6, -⟩ := Cond.exactly_spec (hg (.exactly (.static "java/util/ArrayList" "DEFAULTCAPACITY_EMPTY_ELEMENTDATA" "[Ljava/lang/Object;") "[Ljava/lang/Object;") (by decide +kernel))
  cases t1.symm.trans u1
  cases t4.symm.trans u3
  have e3 : cell.cls = a3 := by
    rw [u6]
    exact Option.some.inj (u2.symm.trans (va_nmO (nm := "[Ljava/lang/Object;") n3 (by decide)))
  have hlt : em < s.heap.size := (Array.getElem?_eq_some_iff.mp t4).1
  have hA : ∀ a : Nat, a < s.heap.size → ¬ (fun q : Nat => s.heap.size ≤ q) a := fun a h => Nat.not_le.mpr h
  refine ⟨(s.heap.size, (fun k => (f k).1, fun k => (f k).2), fun k => if k = 0 then a0 else if k = 1 then a1 else if k = 2 then a2 else if k = 3 then a3 else a4, em, mi), rfl, ?_, ?_, ?_⟩
  · refine ⟨⟨hf, fun k q hq => ?_⟩, fun q hq => ?_, ⟨va_Nw.of rfl (hts _ (t_3 _ (List.mem_of_getElem? (i := 50) rfl))), va_Nw.of rfl (hts _ (t_1 _ (List.mem_of_getElem? (i := 154) rfl))), va_Nw.of rfl (hts _ (t_1 _ (List.mem_of_getElem? (i := 122) rfl)))⟩, fun w hw hc => ?_, ⟨va_AO.of (hts _ (t_2 _ (List.mem_of_getElem? (i := 118) rfl))), va_AO.of (hts _ (t_2 _ (List.mem_of_getElem? (i := 239) rfl))), va_Dc.of (hts _ (t_6 _ (List.mem_of_getElem? (i := 7) rfl))), hmi⟩, vx_Zqof (hts _ (t_1 _ (List.mem_of_getElem? (i := 235) rfl))) (hts _ (t_1 _ (List.mem_of_getElem? (i := 6) rfl))) (hg _ (by decide +kernel)) hA, vx_Zqof (hts _ (t_1 _ (List.mem_of_getElem? (i := 237) rfl))) (hts _ (t_1 _ (List.mem_of_getElem? (i := 6) rfl))) (hg _ (by decide +kernel)) hA, va_Zref (hts _ (t_1 _ (List.mem_of_getElem? (i := 48) rfl))) (hts _ (t_1 _ (List.mem_of_getElem? (i := 4) rfl))) t1 hA⟩
    · match k, hq with
      | 0, hq => cases hq; exact ⟨r0, n0⟩
      | 1, hq => cases hq; exact ⟨r1, n1⟩
      | 2, hq => cases hq; exact ⟨r2, n2⟩
      | 3, hq => cases hq; exact ⟨r3, n3⟩
      | 4, hq => cases hq; exact ⟨r4, n4⟩
      | k + 5, hq => simp [gTys] at hq
    · simp only [strTab, List.mem_cons, List.not_mem_nil, or_false] at hq
      rcases hq with rfl | rfl | rfl | rfl | rfl | rfl | rfl | rfl | rfl | rfl | rfl | rfl | rfl | rfl | rfl | rfl | rfl | rfl
      · obtain ⟨a, -, -, -, he, -⟩ := Cond.exactly_spec (hg (.exactly (.string "Panelry" 129) "java/lang/String") (by decide +kernel)); exact ⟨a, vk_R.of (hts _ (t_3 _ (List.mem_of_getElem? (i := 161) rfl))) he⟩
      · obtain ⟨a, -, -, -, he, -⟩ := Cond.exactly_spec (hg (.exactly (.string "Panelry" 146) "java/lang/String") (by decide +kernel)); exact ⟨a, vk_R.of (hts _ (t_3 _ (List.mem_of_getElem? (i := 182) rfl))) he⟩
      · obtain ⟨a, -, -, -, he, -⟩ := Cond.exactly_spec (hg (.exactly (.string "Panelry" 160) "java/lang/String") (by decide +kernel)); exact ⟨a, vk_R.of (hts _ (t_3 _ (List.mem_of_getElem? (i := 193) rfl))) he⟩
      · obtain ⟨a, -, -, -, he, -⟩ := Cond.exactly_spec (hg (.exactly (.string "Panelry" 222) "java/lang/String") (by decide +kernel)); exact ⟨a, vk_R.of (hts _ (t_4 _ (List.mem_of_getElem? (i := 76) rfl))) he⟩
      · obtain ⟨a, -, -, -, he, -⟩ := Cond.exactly_spec (hg (.exactly (.string "Panelry" 249) "java/lang/String") (by decide +kernel)); exact ⟨a, vk_R.of (hts _ (t_4 _ (List.mem_of_getElem? (i := 141) rfl))) he⟩
      · obtain ⟨a, -, -, -, he, -⟩ := Cond.exactly_spec (hg (.exactly (.string "Panelry" 257) "java/lang/String") (by decide +kernel)); exact ⟨a, vk_R.of (hts _ (t_4 _ (List.mem_of_getElem? (i := 160) rfl))) he⟩
      · obtain ⟨a, -, -, -, he, -⟩ := Cond.exactly_spec (hg (.exactly (.string "Panelry" 267) "java/lang/String") (by decide +kernel)); exact ⟨a, vk_R.of (hts _ (t_2 _ (List.mem_of_getElem? (i := 167) rfl))) he⟩
      · obtain ⟨a, -, -, -, he, -⟩ := Cond.exactly_spec (hg (.exactly (.string "Panelry" 269) "java/lang/String") (by decide +kernel)); exact ⟨a, vk_R.of (hts _ (t_2 _ (List.mem_of_getElem? (i := 217) rfl))) he⟩
      · obtain ⟨a, -, -, -, he, -⟩ := Cond.exactly_spec (hg (.exactly (.string "Panelry" 271) "java/lang/String") (by decide +kernel)); exact ⟨a, vk_R.of (hts _ (t_4 _ (List.mem_of_getElem? (i := 75) rfl))) he⟩
      · obtain ⟨a, -, -, -, he, -⟩ := Cond.exactly_spec (hg (.exactly (.string "Panelry" 273) "java/lang/String") (by decide +kernel)); exact ⟨a, vk_R.of (hts _ (t_3 _ (List.mem_of_getElem? (i := 177) rfl))) he⟩
      · obtain ⟨a, -, -, -, he, -⟩ := Cond.exactly_spec (hg (.exactly (.string "Panelry" 275) "java/lang/String") (by decide +kernel)); exact ⟨a, vk_R.of (hts _ (t_2 _ (List.mem_of_getElem? (i := 148) rfl))) he⟩
      · obtain ⟨a, -, -, -, he, -⟩ := Cond.exactly_spec (hg (.exactly (.string "Panelry" 277) "java/lang/String") (by decide +kernel)); exact ⟨a, vk_R.of (hts _ (t_3 _ (List.mem_of_getElem? (i := 172) rfl))) he⟩
      · obtain ⟨a, -, -, -, he, -⟩ := Cond.exactly_spec (hg (.exactly (.string "Panelry" 279) "java/lang/String") (by decide +kernel)); exact ⟨a, vk_R.of (hts _ (t_3 _ (List.mem_of_getElem? (i := 206) rfl))) he⟩
      · obtain ⟨a, -, -, -, he, -⟩ := Cond.exactly_spec (hg (.exactly (.string "Panelry" 281) "java/lang/String") (by decide +kernel)); exact ⟨a, vk_R.of (hts _ (t_2 _ (List.mem_of_getElem? (i := 9) rfl))) he⟩
      · obtain ⟨a, -, -, -, he, -⟩ := Cond.exactly_spec (hg (.exactly (.string "Panelry" 54) "java/lang/String") (by decide +kernel)); exact ⟨a, vk_R.of (hts _ (t_2 _ (List.mem_of_getElem? (i := 213) rfl))) he⟩
      · obtain ⟨a, -, -, -, he, -⟩ := Cond.exactly_spec (hg (.exactly (.string "Panelry" 72) "java/lang/String") (by decide +kernel)); exact ⟨a, vk_R.of (hts _ (t_2 _ (List.mem_of_getElem? (i := 218) rfl))) he⟩
      · obtain ⟨a, -, -, -, he, -⟩ := Cond.exactly_spec (hg (.exactly (.string "Panelry" 79) "java/lang/String") (by decide +kernel)); exact ⟨a, vk_R.of (hts _ (t_2 _ (List.mem_of_getElem? (i := 231) rfl))) he⟩
      · obtain ⟨a, -, -, -, he, -⟩ := Cond.exactly_spec (hg (.exactly (.string "Panelry" 96) "java/lang/String") (by decide +kernel)); exact ⟨a, vk_R.of (hts _ (t_3 _ (List.mem_of_getElem? (i := 24) rfl))) he⟩
    · cases w <;> first | (exact va_Nw.of rfl (hts _ hw)) | (cases hc)
  · intro E hE N hN ne
    simp only [exL, List.mem_cons, List.not_mem_nil, or_false] at hE hN
    rcases hE with rfl | rfl | rfl <;> rcases hN with rfl | rfl | rfl <;> first | (exact absurd rfl ne) | (exact va_Nc.of (hg _ (by decide +kernel)))
  · refine ⟨(fun a => if a = em then 190 else 0, fun _ => 0, fun _ _ _ => 0, fun _ _ _ => none, fun i => if i = 0 then em else mi), ⟨fun a ha => ?_, rfl, rfl, if_pos rfl, rfl⟩, fun a => ?_, if_pos rfl, rfl⟩
    · have ea : a = em := by
        refine Classical.byContradiction fun z => ha ?_
        exact if_neg z
      subst ea
      have k9 : (if a = a then 190 else 0) = 190 := if_pos rfl
      exact ⟨Or.inr ⟨if_pos rfl, hlt⟩, fun z => absurd k9 z, fun _ => ⟨rfl, cell, t4, e3, t5, t6, t3⟩⟩
    · by_cases z : a = em
      · exact Or.inr (if_pos z)
      · exact Or.inl (if_neg z)
