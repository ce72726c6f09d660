/-! instructions on the heap -/
def ClsOK (ci : Nat) (C : String) (T : u_T) (N : Nat) (fl : List Bool) : Prop :=
  vwCl[ci]? = some (C, T, N) ∧ (∀ w ∈ u_ws C T N, w ∈ WS0) ∧ (∀ a, a < N → ∀ b, b < N → a ≠ b → (T a).2.1 ≠ (T b).2.1) ∧ (∃ ty : Nat → FieldType, (∀ k, k < N → parseFieldDescriptor (T k).2.2.1 = some (ty k)) ∧ ∀ j, j < N → some (defaultValue (ty j)) = (fl[j]?).map (fun b => if b then .null else .int 0)) ∧ fl.length = N
theorem all_ws {ws : List Cond} (h : ws.all (fun w => decide (w ∈ lw_tbl) && goodWord w) = true) : ∀ w ∈ ws, w ∈ WS0 := by
  intro w hw
  have h1 := List.all_eq_true.mp h w hw
  simp only [Bool.and_eq_true, decide_eq_true_eq] at h1
  exact ws0_in h1.1 h1.2
set_option maxRecDepth 100000 in
theorem cls0 : ClsOK 0 RJx4a65c TJx4a65c 3 [false, true, false] := ⟨rfl, all_ws (by decide +kernel), nmJx4a65c, ⟨tyJx4a65c, tyJx4a65c_ok, by decide +kernel⟩, rfl⟩
set_option maxRecDepth 100000 in
theorem cls1 : ClsOK 1 RX0 TX0 4 [false, false, false, true] := ⟨rfl, all_ws (by decide +kernel), nmX0, ⟨tyX0, tyX0_ok, by decide +kernel⟩, rfl⟩
set_option maxRecDepth 100000 in
theorem cls2 : ClsOK 2 RX1 TX1 4 [false, false, false, false] := ⟨rfl, all_ws (by decide +kernel), nmX1, ⟨tyX1, tyX1_ok, by decide +kernel⟩, rfl⟩
set_option maxRecDepth 100000 in
theorem cls3 : ClsOK 3 RX2 TX2 3 [true, false, false] := ⟨rfl, all_ws (by decide +kernel), nmX2, ⟨tyX2, tyX2_ok, by decide +kernel⟩, rfl⟩
set_option maxRecDepth 100000 in
theorem cls4 : ClsOK 4 RX3 TX3 5 [true, true, false, false, true] := ⟨rfl, all_ws (by decide +kernel), nmX3, ⟨tyX3, tyX3_ok, by decide +kernel⟩, rfl⟩
set_option maxRecDepth 100000 in
theorem cls5 : ClsOK 5 RX4 TX4 2 [true, true] := ⟨rfl, all_ws (by decide +kernel), nmX4, ⟨tyX4, tyX4_ok, by decide +kernel⟩, rfl⟩
set_option maxRecDepth 100000 in
theorem cls6 : ClsOK 6 RX5 TX5 5 [true, false, true, false, false] := ⟨rfl, all_ws (by decide +kernel), nmX5, ⟨tyX5, tyX5_ok, by decide +kernel⟩, rfl⟩
set_option maxRecDepth 100000 in
theorem cls7 : ClsOK 7 RX6 TX6 4 [false, false, false, false] := ⟨rfl, all_ws (by decide +kernel), nmX6, ⟨tyX6, tyX6_ok, by decide +kernel⟩, rfl⟩
set_option maxRecDepth 100000 in
theorem cls8 : ClsOK 8 RX7 TX7 5 [false, false, false, false, false] := ⟨rfl, all_ws (by decide +kernel), nmX7, ⟨tyX7, tyX7_ok, by decide +kernel⟩, rfl⟩
set_option maxRecDepth 100000 in
theorem cls9 : ClsOK 9 RX8 TX8 5 [true, true, false, false, false] := ⟨rfl, all_ws (by decide +kernel), nmX8, ⟨tyX8, tyX8_ok, by decide +kernel⟩, rfl⟩
set_option maxRecDepth 100000 in
theorem cls10 : ClsOK 10 RX9 TX9 42 [false, true, true, true, true, true, true, true, true, true, true, true, true, false, true, true, true, true, true, true, true, true, true, true, true, true, false, true, true, true, true, true, false, false, false, true, false, true, false, false, true, false] := ⟨rfl, all_ws (by decide +kernel), nmX9, ⟨tyX9, tyX9_ok, by decide +kernel⟩, rfl⟩
section HW
variable {p : Program} {l : Launch} {e : Env} {R : Room} {s : State} {m : MethodId} {args : Array Value} {below : List Frame} {meth : Method} {c : Code} {H : Heap} {locs : List Loc} {cells slots : Nat} {Q : State → Prop} {cc : ByteArray} {pc : Nat} {ls : Array Slot} {rest : List Value} {a : Nat} {D : va_G} {tys : List (ClassId × FieldType)}
theorem Wg_put (hexec : p.tables.exec = Jvm.exec) (hb : c.code = cc) {own ref C : String} {T : u_T} {N ci index : Nat} {fl : List Bool} (hts : ∀ w ∈ WS0, w.before args s = true) (hc : ClsOK ci C T N fl) (hown : s.vm.findClass own = some m.cls) (hK : va_K D vwCl tys s) {fs : List Value} (ho : va_at D vwCl (a, .inr (ci, fs)) H) (k : Nat) (hk : k < N) (hlink : (Cond.fieldLink own index ref (T k).2.1 (T k).2.2.1).before args s = true) (hsame : ∀ x, s.fieldFound? (T k).1 (T k).2.1 (T k).2.2.1 = some x → s.fieldFound? ref (T k).2.1 (T k).2.2.1 = some x)
    (hfin : (T k).2.2.2 = false ∨ ((T k).2.2.2 = true ∧ meth.name = "<init>" ∧ (T k).1 = own)) {ty : FieldType} {v : Value} (hd : parseFieldDescriptor (T k).2.2.1 = some ty) (hn : narrow ty v = v) (hfit : fits ty v = true) (hl : k < fs.length) (hdg : decode cc pc = .ok (.putfield index, 3))
    (kk : ∀ (H1 : Heap) (i : Nat), va_at D vwCl (a, .inr (ci, fs.set k v)) H1 → H1.size = H.size → (∀ q : Nat, q ≠ a → H1[q]? = H[q]?) → W p l e R s m args below meth c H1 (locs ++ [⟨a, i⟩]) cells slots Q (F0 m (pc + 3) ls rest)) : W p l e R s m args below meth c H locs cells slots Q (F0 m pc ls (v :: .ref a :: rest)) := by
  obtain ⟨hcl, hin, hnm, ⟨ty0, hty, -⟩, -⟩ := hc
  have hap := va_apart (own := own) hts hin ty0 hty hnm hK hcl
  obtain ⟨r, h1, cell, q1, q2, q3, q4⟩ := ho
  have hr : r = (C, T, N) := Option.some.inj (h1.symm.trans hcl)
  subst hr
  obtain ⟨hS, hfc, kC, hkC, hkind⟩ := hK.1 ci _ hcl
  obtain ⟨cf, kf, fi, f, hi, hsl⟩ := hS k hk
  have hst := (u_facts hfc hkC (u_lays hts hin hk) hi).1
  have hlay := hts _ (hin _ (u_in_lay hk))
  have fin : ∀ H1 : Heap, H1[a]? = some (cell.setSlot f.slot v) → va_at D vwCl (a, .inr (ci, fs.set k v)) H1 := fun H1 e1 => by
    rw [hsl] at e1
    exact ⟨_, hcl, t_OB.to (V := updV (vp_V fs) k v) ⟨_, e1, q2, q3, t_set q4 hap hk v⟩ (fun j _ => vp_updV_set hl v j)⟩
  unfold u_lay at hlay
  rcases hfin with hfin | ⟨hfin, hin2, hdecl⟩
  · rw [if_neg (by rw [hfin]; decide)] at hlay
    have h6 := u_store hfc hkC hkind hlay hi hd hn hfit
    exact W.putK hexec hb (f := f) ⟨hown, hlink, ⟨_, _, _, hsame _ hi⟩, hst⟩ (by rw [q2]; exact h6) q1 q3 (by rw [hsl]; exact k2_hasslot (q4 k hk)) rfl rfl hdg fun H' e1 e2 e3 => kk H' _ (fin H' e1) e2 e3
  · rw [if_pos hfin] at hlay
    have hcf : m.cls = cf := by
      obtain ⟨_, _, c', _, _, _, -, -, hf', -, -, -, hown2, -⟩ := Cond.laysFinal_spec hlay
      have e1 : c' = cf := by have := hi.symm.trans hf'; simp at this; exact this.1.symm
      rw [hdecl] at hown2
      rw [← e1]; exact Option.some.inj (hown.symm.trans hown2)
    have h6 := u_fits hfc hkC hkind (Or.inr hlay) hi hd hn hfit
    exact W.putFinK hexec hb hown hlink (hsame _ hi) hst hcf hin2 (by rw [q2]; exact h6) q1 q3 (by rw [hsl]; exact k2_hasslot (q4 k hk)) rfl rfl hdg fun H' e1 e2 e3 => kk H' _ (fin H' e1) e2 e3
end HW
theorem va_S.putB {g : gT} {H0 H H1 : Heap} {locs : List Loc} {a k : Nat} (h : va_S (gA g) H0 H locs) (z : H1.size = H.size) (oq : ∀ q : Nat, q ≠ a → H1[q]? = H[q]?) (ha : g.1 ≤ a) : va_S (gA g) H0 H1 (locs ++ [⟨a, k⟩]) := h.put z oq ha
theorem va_S.grow {g : gT} {H0 H H1 : Heap} {locs : List Loc} (h : va_S (gA g) H0 H locs) (z : H1.size = H.size + 1) (oq : ∀ q : Nat, q < H.size → H1[q]? = H[q]?) : va_S (gA g) H0 H1 locs := ⟨Nat.le_trans h.1 (by omega), fun x h1 h2 => (oq x (Nat.lt_of_lt_of_le h1 h.1)).trans (h.2.1 x h1 h2), h.2.2⟩
/-- which word names the field -/
def FwOK (own : String) (ix : Nat) (ref : String) (f : String × String × String × Bool) : Prop := Cond.fieldLink own ix ref f.2.1 f.2.2.1 ∈ WS0 ∧ (ref = f.1 ∨ Cond.sameField ref f.1 f.2.1 f.2.2.1 ∈ WS0)
theorem fw_same {own ref : String} {ix : Nat} {f : String × String × String × Bool} {s : State} {args : Array Value} (hw : FwOK own ix ref f) (hts : ∀ w ∈ WS0, w.before args s = true) : ∀ x, s.fieldFound? f.1 f.2.1 f.2.2.1 = some x → s.fieldFound? ref f.2.1 f.2.2.1 = some x := by
  rcases hw.2 with e | e
  · rw [e]; exact fun _ h => h
  · exact u_same (hts _ e)
def i_getI (kd f : Nat) (k : KT) : KT := fun ls st h => match st with
  | .ref a :: st' => hK h a = kd ∧ k ls (.int (hI h f a 0) :: st') h
  | _ => False
def i_getR (kd f : Nat) (k : KT) : KT := fun ls st h => match st with
  | .ref a :: st' => hK h a = kd ∧ k ls (va_rf (hR h f a 0) :: st') h
  | _ => False
section SH
variable {z : zT} {cc : ByteArray} {nL lv mc ms cells slots pc : Nat} {own nm : String} {k : KT}
theorem s_getI (hz : Cx z cc nL own nm lv mc ms) {kd f i ci ix N : Nat} {C ref : String} {T : u_T} {fl : List Bool} (hkd : kO kd = some (ci, fl)) (h0 : Nat.blt 0 kd = true) (hc : ClsOK ci C T N fl) (hf : 64 * kd + i = f) (hfl : fl[i]? = some false) (hw : FwOK own ix ref (T i)) (d : decode cc pc = .ok (.getfield ix, 3)) (n : Go z cells slots (pc + 3) k) : Go z cells slots pc (i_getI kd f k) := by
  obtain ⟨p, l, e, R, s, m, args, below, meth, c, Q, g⟩ := z
  obtain ⟨hx, hb, hml, hown, hts, hlk, hnm, hst, hRm, hB, hV⟩ := hz
  intro ls st h H locs la hk hP hS hl
  unfold i_getI at hk
  split at hk
  · next a st' =>
    have hi : i < N := by rw [← hc.2.2.2.2]; exact (List.getElem?_eq_some_iff.mp hfl).1
    refine va_get hx hb hts hc.2.1 hown hV.1 (va_P1 (rp_obj hP hk.1 (Nat.ne_of_gt (Nat.le_of_ble_eq_true h0)) hkd)) 0 rfl hc.1 i hi (hts _ hw.1) (fw_same hw hts) (v := .int (hI h f a 0)) ?_ d (n ls _ h H locs la hk.2 hP hS hl)
    rw [hp_fs_get, hfl, ← hf]; simp
  · exact hk.elim
theorem s_getR (hz : Cx z cc nL own nm lv mc ms) {kd f i ci ix N : Nat} {C ref : String} {T : u_T} {fl : List Bool} (hkd : kO kd = some (ci, fl)) (h0 : Nat.blt 0 kd = true) (hc : ClsOK ci C T N fl) (hf : 64 * kd + i = f) (hfl : fl[i]? = some true) (hw : FwOK own ix ref (T i)) (d : decode cc pc = .ok (.getfield ix, 3)) (n : Go z cells slots (pc + 3) k) : Go z cells slots pc (i_getR kd f k) := by
  obtain ⟨p, l, e, R, s, m, args, below, meth, c, Q, g⟩ := z
  obtain ⟨hx, hb, hml, hown, hts, hlk, hnm, hst, hRm, hB, hV⟩ := hz
  intro ls st h H locs la hk hP hS hl
  unfold i_getR at hk
  split at hk
  · next a st' =>
    have hi : i < N := by rw [← hc.2.2.2.2]; exact (List.getElem?_eq_some_iff.mp hfl).1
    refine va_get hx hb hts hc.2.1 hown hV.1 (va_P1 (rp_obj hP hk.1 (Nat.ne_of_gt (Nat.le_of_ble_eq_true h0)) hkd)) 0 rfl hc.1 i hi (hts _ hw.1) (fw_same hw hts) (v := va_rf (hR h f a 0)) ?_ d (n ls _ h H locs la hk.2 hP hS hl)
    rw [hp_fs_get, hfl, ← hf]; simp
  · exact hk.elim
/-- a nest mate's field -/
theorem s_getIN (hz : Cx z cc nL own nm lv mc ms) {kd f i ci ix N : Nat} {C ref host : String} {T : u_T} {fl : List Bool} (hkd : kO kd = some (ci, fl)) (h0 : Nat.blt 0 kd = true) (hc : ClsOK ci C T N fl) (hf : 64 * kd + i = f) (hfl : fl[i]? = some false) (hnw : nwD = Cond.fieldLinkNest own ix ref (T i).2.1 (T i).2.2.1 host) (hsm : ref = (T i).1) (d : decode cc pc = .ok (.getfield ix, 3)) (n : Go z cells slots (pc + 3) k) : Go z cells slots pc (i_getI kd f k) := by
  obtain ⟨p, l, e, R, s, m, args, below, meth, c, Q, g⟩ := z
  obtain ⟨hx, hb, hml, hown, hts, hlk, hnm, hst, hRm, hB, hV⟩ := hz
  intro ls st h H locs la hk hP hS hl
  unfold i_getI at hk
  split at hk
  · next a st' =>
    have hi : i < N := by rw [← hc.2.2.2.2]; exact (List.getElem?_eq_some_iff.mp hfl).1
    have hw := hV.2.2.1.2.2
    rw [hnw] at hw
    refine va_getN hx hb hts hc.2.1 hown hV.1 (va_P1 (rp_obj hP hk.1 (Nat.ne_of_gt (Nat.le_of_ble_eq_true h0)) hkd)) 0 rfl hc.1 i hi (va_Nw.use rfl hw) (fun x hx => by rw [hsm]; exact hx) (v := .int (hI h f a 0)) ?_ d (n ls _ h H locs la hk.2 hP hS hl)
    rw [hp_fs_get, hfl, ← hf]; simp
  · exact hk.elim
end SH
