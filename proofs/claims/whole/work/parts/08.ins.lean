def isRf (v : Value) : Prop := v = .null ∨ ∃ a, v = .ref a
theorem isRf_null : isRf .null := Or.inl rfl
theorem isRf_ref (a : Nat) : isRf (.ref a) := Or.inr ⟨a, rfl⟩
theorem isRf_rf (o : Option Nat) : isRf (va_rf o) := by
  cases o with
  | none => exact Or.inl rfl
  | some a => exact Or.inr ⟨a, rfl⟩
theorem isRf.cat {v : Value} (h : isRf v) : v.category = 1 := by
  rcases h with rfl | ⟨a, rfl⟩ <;> rfl
theorem isRf.rf {v : Value} (h : isRf v) : ∃ o, v = va_rf o := by
  rcases h with rfl | ⟨a, rfl⟩
  · exact ⟨none, rfl⟩
  · exact ⟨some a, rfl⟩
theorem rf_some (a : Nat) : va_rf (some a) = .ref a := rfl
theorem rf_none : va_rf none = .null := rfl
theorem rf_null (o : Option Nat) : va_rf o = .null ↔ o = none := by cases o <;> simp [va_rf]
theorem rf_ref (o : Option Nat) (a : Nat) : va_rf o = .ref a ↔ o = some a := by cases o <;> simp [va_rf]
theorem rf_inj (o o' : Option Nat) : va_rf o = va_rf o' ↔ o = o' := by cases o <;> cases o' <;> simp [va_rf]
def i_pushI (v : Int32) (k : KT) : KT := fun ls st h => k ls (.int v :: st) h
theorem s_iconst {z : zT} {cc : ByteArray} {nL lv mc ms cells slots pc : Nat} {own nm : String} (hz : Cx z cc nL own nm lv mc ms) {q : Int} {v : Int32} (hv : Int32.ofInt q = v) (d : decode cc pc = .ok (.iconst q, 1)) {k : KT} (n : Go z cells slots (pc + 1) k) : Go z cells slots pc (i_pushI v k) := by
  obtain ⟨p, l, e, R, s, m, args, below, meth, c, Q, g⟩ := z
  obtain ⟨hx, hb, hml, hown, hts, hlk, hnm, hst, hR, hB, hV⟩ := hz
  intro ls st h H locs la hk hP hS hl
  exact lv_iconst hx hb d hv (n ls _ h H locs la hk hP hS hl)
theorem s_bipush {z : zT} {cc : ByteArray} {nL lv mc ms cells slots pc : Nat} {own nm : String} (hz : Cx z cc nL own nm lv mc ms) {q : Int} {v : Int32} (hv : (Int8.ofInt q).toInt32 = v) (d : decode cc pc = .ok (.bipush q, 2)) {k : KT} (n : Go z cells slots (pc + 2) k) : Go z cells slots pc (i_pushI v k) := by
  obtain ⟨p, l, e, R, s, m, args, below, meth, c, Q, g⟩ := z
  obtain ⟨hx, hb, hml, hown, hts, hlk, hnm, hst, hR, hB, hV⟩ := hz
  intro ls st h H locs la hk hP hS hl
  exact lv_bipush hx hb d hv (n ls _ h H locs la hk hP hS hl)
theorem s_sipush {z : zT} {cc : ByteArray} {nL lv mc ms cells slots pc : Nat} {own nm : String} (hz : Cx z cc nL own nm lv mc ms) {q : Int} {v : Int32} (hv : (Int16.ofInt q).toInt32 = v) (d : decode cc pc = .ok (.sipush q, 3)) {k : KT} (n : Go z cells slots (pc + 3) k) : Go z cells slots pc (i_pushI v k) := by
  obtain ⟨p, l, e, R, s, m, args, below, meth, c, Q, g⟩ := z
  obtain ⟨hx, hb, hml, hown, hts, hlk, hnm, hst, hR, hB, hV⟩ := hz
  intro ls st h H locs la hk hP hS hl
  exact lv_sipush hx hb d hv (n ls _ h H locs la hk hP hS hl)
theorem s_ldc {z : zT} {cc : ByteArray} {nL lv mc ms cells slots pc : Nat} {own nm : String} (hz : Cx z cc nL own nm lv mc ms) {ix : Nat} {v : Int32} (hw : Cond.constant own ix v ∈ WS0) (d : decode cc pc = .ok (.ldc ix, 2)) {k : KT} (n : Go z cells slots (pc + 2) k) : Go z cells slots pc (i_pushI v k) := by
  obtain ⟨p, l, e, R, s, m, args, below, meth, c, Q, g⟩ := z
  obtain ⟨hx, hb, hml, hown, hts, hlk, hnm, hst, hR, hB, hV⟩ := hz
  intro ls st h H locs la hk hP hS hl
  exact lv_ldc hx hb hown (hts _ hw) d (n ls _ h H locs la hk hP hS hl)
theorem s_ldcw {z : zT} {cc : ByteArray} {nL lv mc ms cells slots pc : Nat} {own nm : String} (hz : Cx z cc nL own nm lv mc ms) {ix : Nat} {v : Int32} (hw : Cond.constant own ix v ∈ WS0) (d : decode cc pc = .ok (.ldc_w ix, 3)) {k : KT} (n : Go z cells slots (pc + 3) k) : Go z cells slots pc (i_pushI v k) := by
  obtain ⟨p, l, e, R, s, m, args, below, meth, c, Q, g⟩ := z
  obtain ⟨hx, hb, hml, hown, hts, hlk, hnm, hst, hR, hB, hV⟩ := hz
  intro ls st h H locs la hk hP hS hl
  exact lv_ldcw hx hb hown (hts _ hw) d (n ls _ h H locs la hk hP hS hl)
def i_pushN (k : KT) : KT := fun ls st h => k ls (.null :: st) h
theorem s_null {z : zT} {cc : ByteArray} {nL lv mc ms cells slots pc : Nat} {own nm : String} (hz : Cx z cc nL own nm lv mc ms) (d : decode cc pc = .ok (.aconst_null, 1)) {k : KT} (n : Go z cells slots (pc + 1) k) : Go z cells slots pc (i_pushN k) := by
  obtain ⟨p, l, e, R, s, m, args, below, meth, c, Q, g⟩ := z
  obtain ⟨hx, hb, hml, hown, hts, hlk, hnm, hst, hR, hB, hV⟩ := hz
  intro ls st h H locs la hk hP hS hl
  exact lv_null hx hb d (n ls _ h H locs la hk hP hS hl)
def i_pushL (v : Int64) (k : KT) : KT := fun ls st h => k ls (.long v :: st) h
theorem s_lconst {z : zT} {cc : ByteArray} {nL lv mc ms cells slots pc : Nat} {own nm : String} (hz : Cx z cc nL own nm lv mc ms) {q : Fin 2} {v : Int64} (hv : Int64.ofNat (q : Nat) = v) (d : decode cc pc = .ok (.lconst q, 1)) {k : KT} (n : Go z cells slots (pc + 1) k) : Go z cells slots pc (i_pushL v k) := by
  obtain ⟨p, l, e, R, s, m, args, below, meth, c, Q, g⟩ := z
  obtain ⟨hx, hb, hml, hown, hts, hlk, hnm, hst, hR, hB, hV⟩ := hz
  intro ls st h H locs la hk hP hS hl
  exact lv_lconst hx hb d hv (n ls _ h H locs la hk hP hS hl)
def i_iload (i : Nat) (k : KT) : KT := fun ls st h => match lget ls i with
  | some (.int x) => k ls (.int x :: st) h
  | _ => False
theorem s_iload_n {z : zT} {cc : ByteArray} {nL lv mc ms cells slots pc : Nat} {own nm : String} (hz : Cx z cc nL own nm lv mc ms) {f : Fin 4} {i : Nat} (hi : (f : Nat) = i) (d : decode cc pc = .ok (.iload_n f, 1)) {k : KT} (n : Go z cells slots (pc + 1) k) : Go z cells slots pc (i_iload i k) := by
  obtain ⟨p, l, e, R, s, m, args, below, meth, c, Q, g⟩ := z
  obtain ⟨hx, hb, hml, hown, hts, hlk, hnm, hst, hR, hB, hV⟩ := hz
  intro ls st h H locs la hk hP hS hl
  unfold i_iload at hk
  split at hk
  · next x e1 => exact lv_iload_n hx hb d hi (hl.2.2 i _ e1).2 (n ls _ h H locs la hk hP hS hl)
  · exact hk.elim
theorem s_iload {z : zT} {cc : ByteArray} {nL lv mc ms cells slots pc : Nat} {own nm : String} (hz : Cx z cc nL own nm lv mc ms) {i : Nat} (d : decode cc pc = .ok (.iload i, 2)) {k : KT} (n : Go z cells slots (pc + 2) k) : Go z cells slots pc (i_iload i k) := by
  obtain ⟨p, l, e, R, s, m, args, below, meth, c, Q, g⟩ := z
  obtain ⟨hx, hb, hml, hown, hts, hlk, hnm, hst, hR, hB, hV⟩ := hz
  intro ls st h H locs la hk hP hS hl
  unfold i_iload at hk
  split at hk
  · next x e1 => exact lv_iload hx hb d (hl.2.2 i _ e1).2 (n ls _ h H locs la hk hP hS hl)
  · exact hk.elim
def i_aload (i : Nat) (k : KT) : KT := fun ls st h => match lget ls i with
  | some v => isRf v ∧ k ls (v :: st) h
  | none => False
theorem s_aload_n {z : zT} {cc : ByteArray} {nL lv mc ms cells slots pc : Nat} {own nm : String} (hz : Cx z cc nL own nm lv mc ms) {f : Fin 4} {i : Nat} (hi : (f : Nat) = i) (d : decode cc pc = .ok (.aload_n f, 1)) {k : KT} (n : Go z cells slots (pc + 1) k) : Go z cells slots pc (i_aload i k) := by
  obtain ⟨p, l, e, R, s, m, args, below, meth, c, Q, g⟩ := z
  obtain ⟨hx, hb, hml, hown, hts, hlk, hnm, hst, hR, hB, hV⟩ := hz
  intro ls st h H locs la hk hP hS hl
  unfold i_aload at hk
  split at hk
  · next v e1 =>
    obtain ⟨hv, hk⟩ := hk
    have n1 := n ls _ h H locs la hk hP hS hl
    have e2 := (hl.2.2 i _ e1).2
    rcases hv with rfl | ⟨a, rfl⟩
    · exact lv_aload_nN hx hb d hi e2 n1
    · exact lv_aload_n hx hb d hi e2 n1
  · exact hk.elim
theorem s_aload {z : zT} {cc : ByteArray} {nL lv mc ms cells slots pc : Nat} {own nm : String} (hz : Cx z cc nL own nm lv mc ms) {i : Nat} (d : decode cc pc = .ok (.aload i, 2)) {k : KT} (n : Go z cells slots (pc + 2) k) : Go z cells slots pc (i_aload i k) := by
  obtain ⟨p, l, e, R, s, m, args, below, meth, c, Q, g⟩ := z
  obtain ⟨hx, hb, hml, hown, hts, hlk, hnm, hst, hR, hB, hV⟩ := hz
  intro ls st h H locs la hk hP hS hl
  unfold i_aload at hk
  split at hk
  · next v e1 =>
    obtain ⟨hv, hk⟩ := hk
    have n1 := n ls _ h H locs la hk hP hS hl
    have e2 := (hl.2.2 i _ e1).2
    rcases hv with rfl | ⟨a, rfl⟩
    · exact lv_aloadN hx hb d e2 n1
    · exact lv_aload hx hb d e2 n1
  · exact hk.elim
def i_istore (i : Nat) (k : KT) : KT := fun ls st h => match st with
  | .int x :: st' => k (lset ls i (.int x)) st' h
  | _ => False
theorem s_istore_n {z : zT} {cc : ByteArray} {nL lv mc ms cells slots pc : Nat} {own nm : String} (hz : Cx z cc nL own nm lv mc ms) {f : Fin 4} {i : Nat} (hi : (f : Nat) = i) (hn : Nat.blt i nL = true) (d : decode cc pc = .ok (.istore_n f, 1)) {k : KT} (n : Go z cells slots (pc + 1) k) : Go z cells slots pc (i_istore i k) := by
  obtain ⟨p, l, e, R, s, m, args, below, meth, c, Q, g⟩ := z
  obtain ⟨hx, hb, hml, hown, hts, hlk, hnm, hst, hR, hB, hV⟩ := hz
  intro ls st h H locs la hk hP hS hl
  unfold i_istore at hk
  split at hk
  · next x st' => exact lv_istore_n hx hb d hi hl.has (by rw [hml]; exact Nat.le_of_ble_eq_true hn) rfl (fun la' h' => n _ _ h H locs la' hk hP hS (hl.set rfl h'))
  · exact hk.elim
theorem s_istore {z : zT} {cc : ByteArray} {nL lv mc ms cells slots pc : Nat} {own nm : String} (hz : Cx z cc nL own nm lv mc ms) {i : Nat} (hn : Nat.blt i nL = true) (d : decode cc pc = .ok (.istore i, 2)) {k : KT} (n : Go z cells slots (pc + 2) k) : Go z cells slots pc (i_istore i k) := by
  obtain ⟨p, l, e, R, s, m, args, below, meth, c, Q, g⟩ := z
  obtain ⟨hx, hb, hml, hown, hts, hlk, hnm, hst, hR, hB, hV⟩ := hz
  intro ls st h H locs la hk hP hS hl
  unfold i_istore at hk
  split at hk
  · next x st' => exact lv_istore hx hb d hl.has (by rw [hml]; exact Nat.le_of_ble_eq_true hn) rfl (fun la' h' => n _ _ h H locs la' hk hP hS (hl.set rfl h'))
  · exact hk.elim
def i_astore (i : Nat) (k : KT) : KT := fun ls st h => match st with
  | v :: st' => isRf v ∧ k (lset ls i v) st' h
  | _ => False
theorem s_astore_n {z : zT} {cc : ByteArray} {nL lv mc ms cells slots pc : Nat} {own nm : String} (hz : Cx z cc nL own nm lv mc ms) {f : Fin 4} {i : Nat} (hi : (f : Nat) = i) (hn : Nat.blt i nL = true) (d : decode cc pc = .ok (.astore_n f, 1)) {k : KT} (n : Go z cells slots (pc + 1) k) : Go z cells slots pc (i_astore i k) := by
  obtain ⟨p, l, e, R, s, m, args, below, meth, c, Q, g⟩ := z
  obtain ⟨hx, hb, hml, hown, hts, hlk, hnm, hst, hR, hB, hV⟩ := hz
  intro ls st h H locs la hk hP hS hl
  unfold i_astore at hk
  split at hk
  · next v st' =>
    obtain ⟨hv, hk⟩ := hk
    have hn' : i < c.maxLocals := by rw [hml]; exact Nat.le_of_ble_eq_true hn
    rcases hv with rfl | ⟨a, rfl⟩
    · exact lv_astore_nN hx hb d hi hl.has hn' rfl (fun la' h' => n _ _ h H locs la' hk hP hS (hl.set rfl h'))
    · exact lv_astore_n hx hb d hi hl.has hn' rfl (fun la' h' => n _ _ h H locs la' hk hP hS (hl.set rfl h'))
  · exact hk.elim
theorem s_astore {z : zT} {cc : ByteArray} {nL lv mc ms cells slots pc : Nat} {own nm : String} (hz : Cx z cc nL own nm lv mc ms) {i : Nat} (hn : Nat.blt i nL = true) (d : decode cc pc = .ok (.astore i, 2)) {k : KT} (n : Go z cells slots (pc + 2) k) : Go z cells slots pc (i_astore i k) := by
  obtain ⟨p, l, e, R, s, m, args, below, meth, c, Q, g⟩ := z
  obtain ⟨hx, hb, hml, hown, hts, hlk, hnm, hst, hR, hB, hV⟩ := hz
  intro ls st h H locs la hk hP hS hl
  unfold i_astore at hk
  split at hk
  · next v st' =>
    obtain ⟨hv, hk⟩ := hk
    have hn' : i < c.maxLocals := by rw [hml]; exact Nat.le_of_ble_eq_true hn
    rcases hv with rfl | ⟨a, rfl⟩
    · exact lv_astoreN hx hb d hl.has hn' rfl (fun la' h' => n _ _ h H locs la' hk hP hS (hl.set rfl h'))
    · exact lv_astore hx hb d hl.has hn' rfl (fun la' h' => n _ _ h H locs la' hk hP hS (hl.set rfl h'))
  · exact hk.elim
def i_iinc (i : Nat) (v : Int32) (k : KT) : KT := fun ls st h => match lget ls i with
  | some (.int x) => k (lset ls i (.int (x + v))) st h
  | _ => False
theorem s_iinc {z : zT} {cc : ByteArray} {nL lv mc ms cells slots pc : Nat} {own nm : String} (hz : Cx z cc nL own nm lv mc ms) {i : Nat} {q : Int} {v : Int32} (hv : Int32.ofInt q = v) (hn : Nat.blt i nL = true) (d : decode cc pc = .ok (.iinc i q, 3)) {k : KT} (n : Go z cells slots (pc + 3) k) : Go z cells slots pc (i_iinc i v k) := by
  obtain ⟨p, l, e, R, s, m, args, below, meth, c, Q, g⟩ := z
  obtain ⟨hx, hb, hml, hown, hts, hlk, hnm, hst, hR, hB, hV⟩ := hz
  intro ls st h H locs la hk hP hS hl
  unfold i_iinc at hk
  split at hk
  · next x e1 =>
    obtain ⟨j, hj⟩ := List.getElem?_of_mem (lasc_mem.mpr e1)
    exact lv_iinc hx hb d hl.has hj (by rw [hv]) (by rw [hml]; exact Nat.le_of_ble_eq_true hn) rfl (fun la' h' => n _ _ h H locs la' hk hP hS (hl.set rfl h'))
  · exact hk.elim
def i_iadd (k : KT) : KT := fun ls st h => match st with
  | .int y :: .int x :: st' => k ls (.int (x + y) :: st') h
  | _ => False
theorem s_iadd {z : zT} {cc : ByteArray} {nL lv mc ms cells slots pc : Nat} {own nm : String} (hz : Cx z cc nL own nm lv mc ms) (d : decode cc pc = .ok (.iadd, 1)) {k : KT} (n : Go z cells slots (pc + 1) k) : Go z cells slots pc (i_iadd k) := by
  obtain ⟨p, l, e, R, s, m, args, below, meth, c, Q, g⟩ := z
  obtain ⟨hx, hb, hml, hown, hts, hlk, hnm, hst, hR, hB, hV⟩ := hz
  intro ls st h H locs la hk hP hS hl
  unfold i_iadd at hk
  split at hk
  · next y x st' => exact lv_iadd hx hb d (n ls _ h H locs la hk hP hS hl)
  · exact hk.elim
def i_isub (k : KT) : KT := fun ls st h => match st with
  | .int y :: .int x :: st' => k ls (.int (x - y) :: st') h
  | _ => False
theorem s_isub {z : zT} {cc : ByteArray} {nL lv mc ms cells slots pc : Nat} {own nm : String} (hz : Cx z cc nL own nm lv mc ms) (d : decode cc pc = .ok (.isub, 1)) {k : KT} (n : Go z cells slots (pc + 1) k) : Go z cells slots pc (i_isub k) := by
  obtain ⟨p, l, e, R, s, m, args, below, meth, c, Q, g⟩ := z
  obtain ⟨hx, hb, hml, hown, hts, hlk, hnm, hst, hR, hB, hV⟩ := hz
  intro ls st h H locs la hk hP hS hl
  unfold i_isub at hk
  split at hk
  · next y x st' => exact lv_isub hx hb d (n ls _ h H locs la hk hP hS hl)
  · exact hk.elim
def i_imul (k : KT) : KT := fun ls st h => match st with
  | .int y :: .int x :: st' => k ls (.int (x * y) :: st') h
  | _ => False
theorem s_imul {z : zT} {cc : ByteArray} {nL lv mc ms cells slots pc : Nat} {own nm : String} (hz : Cx z cc nL own nm lv mc ms) (d : decode cc pc = .ok (.imul, 1)) {k : KT} (n : Go z cells slots (pc + 1) k) : Go z cells slots pc (i_imul k) := by
  obtain ⟨p, l, e, R, s, m, args, below, meth, c, Q, g⟩ := z
  obtain ⟨hx, hb, hml, hown, hts, hlk, hnm, hst, hR, hB, hV⟩ := hz
  intro ls st h H locs la hk hP hS hl
  unfold i_imul at hk
  split at hk
  · next y x st' => exact lv_imul hx hb d (n ls _ h H locs la hk hP hS hl)
  · exact hk.elim
def i_iand (k : KT) : KT := fun ls st h => match st with
  | .int y :: .int x :: st' => k ls (.int (x &&& y) :: st') h
  | _ => False
theorem s_iand {z : zT} {cc : ByteArray} {nL lv mc ms cells slots pc : Nat} {own nm : String} (hz : Cx z cc nL own nm lv mc ms) (d : decode cc pc = .ok (.iand, 1)) {k : KT} (n : Go z cells slots (pc + 1) k) : Go z cells slots pc (i_iand k) := by
  obtain ⟨p, l, e, R, s, m, args, below, meth, c, Q, g⟩ := z
  obtain ⟨hx, hb, hml, hown, hts, hlk, hnm, hst, hR, hB, hV⟩ := hz
  intro ls st h H locs la hk hP hS hl
  unfold i_iand at hk
  split at hk
  · next y x st' => exact lv_iand hx hb d (n ls _ h H locs la hk hP hS hl)
  · exact hk.elim
def i_ior (k : KT) : KT := fun ls st h => match st with
  | .int y :: .int x :: st' => k ls (.int (x ||| y) :: st') h
  | _ => False
theorem s_ior {z : zT} {cc : ByteArray} {nL lv mc ms cells slots pc : Nat} {own nm : String} (hz : Cx z cc nL own nm lv mc ms) (d : decode cc pc = .ok (.ior, 1)) {k : KT} (n : Go z cells slots (pc + 1) k) : Go z cells slots pc (i_ior k) := by
  obtain ⟨p, l, e, R, s, m, args, below, meth, c, Q, g⟩ := z
  obtain ⟨hx, hb, hml, hown, hts, hlk, hnm, hst, hR, hB, hV⟩ := hz
  intro ls st h H locs la hk hP hS hl
  unfold i_ior at hk
  split at hk
  · next y x st' => exact lv_ior hx hb d (n ls _ h H locs la hk hP hS hl)
  · exact hk.elim
def i_ixor (k : KT) : KT := fun ls st h => match st with
  | .int y :: .int x :: st' => k ls (.int (x ^^^ y) :: st') h
  | _ => False
theorem s_ixor {z : zT} {cc : ByteArray} {nL lv mc ms cells slots pc : Nat} {own nm : String} (hz : Cx z cc nL own nm lv mc ms) (d : decode cc pc = .ok (.ixor, 1)) {k : KT} (n : Go z cells slots (pc + 1) k) : Go z cells slots pc (i_ixor k) := by
  obtain ⟨p, l, e, R, s, m, args, below, meth, c, Q, g⟩ := z
  obtain ⟨hx, hb, hml, hown, hts, hlk, hnm, hst, hR, hB, hV⟩ := hz
  intro ls st h H locs la hk hP hS hl
  unfold i_ixor at hk
  split at hk
  · next y x st' => exact lv_ixor hx hb d (n ls _ h H locs la hk hP hS hl)
  · exact hk.elim
def i_ishl (k : KT) : KT := fun ls st h => match st with
  | .int y :: .int x :: st' => k ls (.int (x <<< (y &&& 31)) :: st') h
  | _ => False
theorem s_ishl {z : zT} {cc : ByteArray} {nL lv mc ms cells slots pc : Nat} {own nm : String} (hz : Cx z cc nL own nm lv mc ms) (d : decode cc pc = .ok (.ishl, 1)) {k : KT} (n : Go z cells slots (pc + 1) k) : Go z cells slots pc (i_ishl k) := by
  obtain ⟨p, l, e, R, s, m, args, below, meth, c, Q, g⟩ := z
  obtain ⟨hx, hb, hml, hown, hts, hlk, hnm, hst, hR, hB, hV⟩ := hz
  intro ls st h H locs la hk hP hS hl
  unfold i_ishl at hk
  split at hk
  · next y x st' => exact lv_ishl hx hb d (n ls _ h H locs la hk hP hS hl)
  · exact hk.elim
def i_ishr (k : KT) : KT := fun ls st h => match st with
  | .int y :: .int x :: st' => k ls (.int (x >>> (y &&& 31)) :: st') h
  | _ => False
theorem s_ishr {z : zT} {cc : ByteArray} {nL lv mc ms cells slots pc : Nat} {own nm : String} (hz : Cx z cc nL own nm lv mc ms) (d : decode cc pc = .ok (.ishr, 1)) {k : KT} (n : Go z cells slots (pc + 1) k) : Go z cells slots pc (i_ishr k) := by
  obtain ⟨p, l, e, R, s, m, args, below, meth, c, Q, g⟩ := z
  obtain ⟨hx, hb, hml, hown, hts, hlk, hnm, hst, hR, hB, hV⟩ := hz
  intro ls st h H locs la hk hP hS hl
  unfold i_ishr at hk
  split at hk
  · next y x st' => exact lv_ishr hx hb d (n ls _ h H locs la hk hP hS hl)
  · exact hk.elim
def i_iushr (k : KT) : KT := fun ls st h => match st with
  | .int y :: .int x :: st' => k ls (.int ((x.toUInt32 >>> (y.toUInt32 &&& Int32.toUInt32 31)).toInt32) :: st') h
  | _ => False
theorem s_iushr {z : zT} {cc : ByteArray} {nL lv mc ms cells slots pc : Nat} {own nm : String} (hz : Cx z cc nL own nm lv mc ms) (d : decode cc pc = .ok (.iushr, 1)) {k : KT} (n : Go z cells slots (pc + 1) k) : Go z cells slots pc (i_iushr k) := by
  obtain ⟨p, l, e, R, s, m, args, below, meth, c, Q, g⟩ := z
  obtain ⟨hx, hb, hml, hown, hts, hlk, hnm, hst, hR, hB, hV⟩ := hz
  intro ls st h H locs la hk hP hS hl
  unfold i_iushr at hk
  split at hk
  · next y x st' => exact lv_iushr hx hb d rfl (n ls _ h H locs la hk hP hS hl)
  · exact hk.elim
def i_idiv (k : KT) : KT := fun ls st h => match st with
  | .int y :: .int x :: st' => ¬ y = 0 ∧ k ls (.int (x / y) :: st') h
  | _ => False
theorem s_idiv {z : zT} {cc : ByteArray} {nL lv mc ms cells slots pc : Nat} {own nm : String} (hz : Cx z cc nL own nm lv mc ms) (d : decode cc pc = .ok (.idiv, 1)) {k : KT} (n : Go z cells slots (pc + 1) k) : Go z cells slots pc (i_idiv k) := by
  obtain ⟨p, l, e, R, s, m, args, below, meth, c, Q, g⟩ := z
  obtain ⟨hx, hb, hml, hown, hts, hlk, hnm, hst, hR, hB, hV⟩ := hz
  intro ls st h H locs la hk hP hS hl
  unfold i_idiv at hk
  split at hk
  · next y x st' => exact lv_idiv hx hb d hk.1 (n ls _ h H locs la hk.2 hP hS hl)
  · exact hk.elim
def i_i2l (k : KT) : KT := fun ls st h => match st with
  | .int x :: st' => k ls (.long x.toInt64 :: st') h
  | _ => False
theorem s_i2l {z : zT} {cc : ByteArray} {nL lv mc ms cells slots pc : Nat} {own nm : String} (hz : Cx z cc nL own nm lv mc ms) (d : decode cc pc = .ok (.i2l, 1)) {k : KT} (n : Go z cells slots (pc + 1) k) : Go z cells slots pc (i_i2l k) := by
  obtain ⟨p, l, e, R, s, m, args, below, meth, c, Q, g⟩ := z
  obtain ⟨hx, hb, hml, hown, hts, hlk, hnm, hst, hR, hB, hV⟩ := hz
  intro ls st h H locs la hk hP hS hl
  unfold i_i2l at hk
  split at hk
  · next x st' => exact lv_i2l hx hb d rfl (n ls _ h H locs la hk hP hS hl)
  · exact hk.elim
def i_lcmp (k : KT) : KT := fun ls st h => match st with
  | .long y :: .long x :: st' => k ls (.int (lg_cmp x y) :: st') h
  | _ => False
theorem s_lcmp {z : zT} {cc : ByteArray} {nL lv mc ms cells slots pc : Nat} {own nm : String} (hz : Cx z cc nL own nm lv mc ms) (d : decode cc pc = .ok (.lcmp, 1)) {k : KT} (n : Go z cells slots (pc + 1) k) : Go z cells slots pc (i_lcmp k) := by
  obtain ⟨p, l, e, R, s, m, args, below, meth, c, Q, g⟩ := z
  obtain ⟨hx, hb, hml, hown, hts, hlk, hnm, hst, hR, hB, hV⟩ := hz
  intro ls st h H locs la hk hP hS hl
  unfold i_lcmp at hk
  split at hk
  · next y x st' => exact W.lcmp hx hb d (n ls _ h H locs la hk hP hS hl)
  · exact hk.elim
def isC1 (v : Value) : Prop := isRf v ∨ ∃ x, v = .int x
theorem isC1.cat {v : Value} (h : isC1 v) : v.category = 1 := by
  rcases h with h | ⟨x, rfl⟩
  · exact h.cat
  · rfl
theorem isC1_int (x : Int32) : isC1 (.int x) := Or.inr ⟨x, rfl⟩
theorem isC1_ref (a : Nat) : isC1 (.ref a) := Or.inl (isRf_ref a)
theorem isC1_null : isC1 .null := Or.inl isRf_null
theorem isC1_rf (o : Option Nat) : isC1 (va_rf o) := Or.inl (isRf_rf o)
def i_dup (k : KT) : KT := fun ls st h => match st with
  | v :: st' => isC1 v ∧ k ls (v :: v :: st') h
  | _ => False
theorem s_dup {z : zT} {cc : ByteArray} {nL lv mc ms cells slots pc : Nat} {own nm : String} (hz : Cx z cc nL own nm lv mc ms) (d : decode cc pc = .ok (.dup, 1)) {k : KT} (n : Go z cells slots (pc + 1) k) : Go z cells slots pc (i_dup k) := by
  obtain ⟨p, l, e, R, s, m, args, below, meth, c, Q, g⟩ := z
  obtain ⟨hx, hb, hml, hown, hts, hlk, hnm, hst, hR, hB, hV⟩ := hz
  intro ls st h H locs la hk hP hS hl
  unfold i_dup at hk
  split at hk
  · next v st' => exact lv_dup hx hb d hk.1.cat (n ls _ h H locs la hk.2 hP hS hl)
  · exact hk.elim
def i_pop (k : KT) : KT := fun ls st h => match st with
  | v :: st' => isC1 v ∧ k ls st' h
  | _ => False
theorem s_pop {z : zT} {cc : ByteArray} {nL lv mc ms cells slots pc : Nat} {own nm : String} (hz : Cx z cc nL own nm lv mc ms) (d : decode cc pc = .ok (.pop, 1)) {k : KT} (n : Go z cells slots (pc + 1) k) : Go z cells slots pc (i_pop k) := by
  obtain ⟨p, l, e, R, s, m, args, below, meth, c, Q, g⟩ := z
  obtain ⟨hx, hb, hml, hown, hts, hlk, hnm, hst, hR, hB, hV⟩ := hz
  intro ls st h H locs la hk hP hS hl
  unfold i_pop at hk
  split at hk
  · next v st' => exact lv_pop hx hb d hk.1.cat (n ls _ h H locs la hk.2 hP hS hl)
  · exact hk.elim
def i_dupx1 (k : KT) : KT := fun ls st h => match st with
  | v :: w :: st' => (isC1 v ∧ isC1 w) ∧ k ls (v :: w :: v :: st') h
  | _ => False
theorem s_dupx1 {z : zT} {cc : ByteArray} {nL lv mc ms cells slots pc : Nat} {own nm : String} (hz : Cx z cc nL own nm lv mc ms) (d : decode cc pc = .ok (.dup_x1, 1)) {k : KT} (n : Go z cells slots (pc + 1) k) : Go z cells slots pc (i_dupx1 k) := by
  obtain ⟨p, l, e, R, s, m, args, below, meth, c, Q, g⟩ := z
  obtain ⟨hx, hb, hml, hown, hts, hlk, hnm, hst, hR, hB, hV⟩ := hz
  intro ls st h H locs la hk hP hS hl
  unfold i_dupx1 at hk
  split at hk
  · next v w st' => exact lv_dup_x1 hx hb d hk.1.1.cat hk.1.2.cat (n ls _ h H locs la hk.2 hP hS hl)
  · exact hk.elim
def i_dup2 (k : KT) : KT := fun ls st h => match st with
  | v :: w :: st' => (isC1 v ∧ isC1 w) ∧ k ls (v :: w :: v :: w :: st') h
  | _ => False
theorem s_dup2 {z : zT} {cc : ByteArray} {nL lv mc ms cells slots pc : Nat} {own nm : String} (hz : Cx z cc nL own nm lv mc ms) (d : decode cc pc = .ok (.dup2, 1)) {k : KT} (n : Go z cells slots (pc + 1) k) : Go z cells slots pc (i_dup2 k) := by
  obtain ⟨p, l, e, R, s, m, args, below, meth, c, Q, g⟩ := z
  obtain ⟨hx, hb, hml, hown, hts, hlk, hnm, hst, hR, hB, hV⟩ := hz
  intro ls st h H locs la hk hP hS hl
  unfold i_dup2 at hk
  split at hk
  · next v w st' => exact lv_dup2_11 hx hb d hk.1.1.cat hk.1.2.cat (n ls _ h H locs la hk.2 hP hS hl)
  · exact hk.elim
theorem s_goto {z : zT} {cc : ByteArray} {nL lv mc ms cells slots pc : Nat} {own nm : String} (hz : Cx z cc nL own nm lv mc ms) {off : Int} {tgt : Nat} (ht : (pc : Int) + off = (tgt : Int)) (d : decode cc pc = .ok (.goto off, 3)) {k : KT} (n : Go z cells slots (tgt) k) : Go z cells slots pc (k) := by
  obtain ⟨p, l, e, R, s, m, args, below, meth, c, Q, g⟩ := z
  obtain ⟨hx, hb, hml, hown, hts, hlk, hnm, hst, hR, hB, hV⟩ := hz
  intro ls st h H locs la hk hP hS hl
  exact lv_goto hx hb d ht (n ls _ h H locs la hk hP hS hl)
def i_ifeq (kt kf : KT) : KT := fun ls st h => match st with
  | .int x :: st' => (x = 0 → kt ls st' h) ∧ (¬ x = 0 → kf ls st' h)
  | _ => False
theorem s_ifeq {z : zT} {cc : ByteArray} {nL lv mc ms cells slots pc : Nat} {own nm : String} (hz : Cx z cc nL own nm lv mc ms) {off : Int} {tgt : Nat} (ht : (pc : Int) + off = (tgt : Int)) (d : decode cc pc = .ok (.ifCond .eq off, 3)) {kt kf : KT} (nt : Go z cells slots tgt kt) (nf : Go z cells slots (pc + 3) kf) : Go z cells slots pc (i_ifeq kt kf) := by
  obtain ⟨p, l, e, R, s, m, args, below, meth, c, Q, g⟩ := z
  obtain ⟨hx, hb, hml, hown, hts, hlk, hnm, hst, hR, hB, hV⟩ := hz
  intro ls st h H locs la hk hP hS hl
  unfold i_ifeq at hk
  split at hk
  · next x st' => exact lv_if_eq hx hb d ht (fun q => nt ls _ h H locs la (hk.1 q) hP hS hl) (fun q => nf ls _ h H locs la (hk.2 q) hP hS hl)
  · exact hk.elim
def i_ifne (kt kf : KT) : KT := fun ls st h => match st with
  | .int x :: st' => (¬ x = 0 → kt ls st' h) ∧ (x = 0 → kf ls st' h)
  | _ => False
theorem s_ifne {z : zT} {cc : ByteArray} {nL lv mc ms cells slots pc : Nat} {own nm : String} (hz : Cx z cc nL own nm lv mc ms) {off : Int} {tgt : Nat} (ht : (pc : Int) + off = (tgt : Int)) (d : decode cc pc = .ok (.ifCond .ne off, 3)) {kt kf : KT} (nt : Go z cells slots tgt kt) (nf : Go z cells slots (pc + 3) kf) : Go z cells slots pc (i_ifne kt kf) := by
  obtain ⟨p, l, e, R, s, m, args, below, meth, c, Q, g⟩ := z
  obtain ⟨hx, hb, hml, hown, hts, hlk, hnm, hst, hR, hB, hV⟩ := hz
  intro ls st h H locs la hk hP hS hl
  unfold i_ifne at hk
  split at hk
  · next x st' => exact lv_if_ne hx hb d ht (fun q => nt ls _ h H locs la (hk.1 q) hP hS hl) (fun q => nf ls _ h H locs la (hk.2 q) hP hS hl)
  · exact hk.elim
def i_iflt (kt kf : KT) : KT := fun ls st h => match st with
  | .int x :: st' => (x < 0 → kt ls st' h) ∧ (¬ x < 0 → kf ls st' h)
  | _ => False
theorem s_iflt {z : zT} {cc : ByteArray} {nL lv mc ms cells slots pc : Nat} {own nm : String} (hz : Cx z cc nL own nm lv mc ms) {off : Int} {tgt : Nat} (ht : (pc : Int) + off = (tgt : Int)) (d : decode cc pc = .ok (.ifCond .lt off, 3)) {kt kf : KT} (nt : Go z cells slots tgt kt) (nf : Go z cells slots (pc + 3) kf) : Go z cells slots pc (i_iflt kt kf) := by
  obtain ⟨p, l, e, R, s, m, args, below, meth, c, Q, g⟩ := z
  obtain ⟨hx, hb, hml, hown, hts, hlk, hnm, hst, hR, hB, hV⟩ := hz
  intro ls st h H locs la hk hP hS hl
  unfold i_iflt at hk
  split at hk
  · next x st' => exact lv_if_lt hx hb d ht (fun q => nt ls _ h H locs la (hk.1 q) hP hS hl) (fun q => nf ls _ h H locs la (hk.2 q) hP hS hl)
  · exact hk.elim
def i_ifge (kt kf : KT) : KT := fun ls st h => match st with
  | .int x :: st' => (0 ≤ x → kt ls st' h) ∧ (¬ 0 ≤ x → kf ls st' h)
  | _ => False
theorem s_ifge {z : zT} {cc : ByteArray} {nL lv mc ms cells slots pc : Nat} {own nm : String} (hz : Cx z cc nL own nm lv mc ms) {off : Int} {tgt : Nat} (ht : (pc : Int) + off = (tgt : Int)) (d : decode cc pc = .ok (.ifCond .ge off, 3)) {kt kf : KT} (nt : Go z cells slots tgt kt) (nf : Go z cells slots (pc + 3) kf) : Go z cells slots pc (i_ifge kt kf) := by
  obtain ⟨p, l, e, R, s, m, args, below, meth, c, Q, g⟩ := z
  obtain ⟨hx, hb, hml, hown, hts, hlk, hnm, hst, hR, hB, hV⟩ := hz
  intro ls st h H locs la hk hP hS hl
  unfold i_ifge at hk
  split at hk
  · next x st' => exact lv_if_ge hx hb d ht (fun q => nt ls _ h H locs la (hk.1 q) hP hS hl) (fun q => nf ls _ h H locs la (hk.2 q) hP hS hl)
  · exact hk.elim
def i_ifgt (kt kf : KT) : KT := fun ls st h => match st with
  | .int x :: st' => (0 < x → kt ls st' h) ∧ (¬ 0 < x → kf ls st' h)
  | _ => False
theorem s_ifgt {z : zT} {cc : ByteArray} {nL lv mc ms cells slots pc : Nat} {own nm : String} (hz : Cx z cc nL own nm lv mc ms) {off : Int} {tgt : Nat} (ht : (pc : Int) + off = (tgt : Int)) (d : decode cc pc = .ok (.ifCond .gt off, 3)) {kt kf : KT} (nt : Go z cells slots tgt kt) (nf : Go z cells slots (pc + 3) kf) : Go z cells slots pc (i_ifgt kt kf) := by
  obtain ⟨p, l, e, R, s, m, args, below, meth, c, Q, g⟩ := z
  obtain ⟨hx, hb, hml, hown, hts, hlk, hnm, hst, hR, hB, hV⟩ := hz
  intro ls st h H locs la hk hP hS hl
  unfold i_ifgt at hk
  split at hk
  · next x st' => exact lv_if_gt hx hb d ht (fun q => nt ls _ h H locs la (hk.1 q) hP hS hl) (fun q => nf ls _ h H locs la (hk.2 q) hP hS hl)
  · exact hk.elim
def i_ifle (kt kf : KT) : KT := fun ls st h => match st with
  | .int x :: st' => (x ≤ 0 → kt ls st' h) ∧ (¬ x ≤ 0 → kf ls st' h)
  | _ => False
theorem s_ifle {z : zT} {cc : ByteArray} {nL lv mc ms cells slots pc : Nat} {own nm : String} (hz : Cx z cc nL own nm lv mc ms) {off : Int} {tgt : Nat} (ht : (pc : Int) + off = (tgt : Int)) (d : decode cc pc = .ok (.ifCond .le off, 3)) {kt kf : KT} (nt : Go z cells slots tgt kt) (nf : Go z cells slots (pc + 3) kf) : Go z cells slots pc (i_ifle kt kf) := by
  obtain ⟨p, l, e, R, s, m, args, below, meth, c, Q, g⟩ := z
  obtain ⟨hx, hb, hml, hown, hts, hlk, hnm, hst, hR, hB, hV⟩ := hz
  intro ls st h H locs la hk hP hS hl
  unfold i_ifle at hk
  split at hk
  · next x st' => exact lv_if_le hx hb d ht (fun q => nt ls _ h H locs la (hk.1 q) hP hS hl) (fun q => nf ls _ h H locs la (hk.2 q) hP hS hl)
  · exact hk.elim
def i_iceq (kt kf : KT) : KT := fun ls st h => match st with
  | .int y :: .int x :: st' => (x = y → kt ls st' h) ∧ (¬ x = y → kf ls st' h)
  | _ => False
theorem s_iceq {z : zT} {cc : ByteArray} {nL lv mc ms cells slots pc : Nat} {own nm : String} (hz : Cx z cc nL own nm lv mc ms) {off : Int} {tgt : Nat} (ht : (pc : Int) + off = (tgt : Int)) (d : decode cc pc = .ok (.if_icmp .eq off, 3)) {kt kf : KT} (nt : Go z cells slots tgt kt) (nf : Go z cells slots (pc + 3) kf) : Go z cells slots pc (i_iceq kt kf) := by
  obtain ⟨p, l, e, R, s, m, args, below, meth, c, Q, g⟩ := z
  obtain ⟨hx, hb, hml, hown, hts, hlk, hnm, hst, hR, hB, hV⟩ := hz
  intro ls st h H locs la hk hP hS hl
  unfold i_iceq at hk
  split at hk
  · next y x st' => exact lv_icmp_eq hx hb d ht (fun q => nt ls _ h H locs la (hk.1 q) hP hS hl) (fun q => nf ls _ h H locs la (hk.2 q) hP hS hl)
  · exact hk.elim
def i_icne (kt kf : KT) : KT := fun ls st h => match st with
  | .int y :: .int x :: st' => (¬ x = y → kt ls st' h) ∧ (x = y → kf ls st' h)
  | _ => False
theorem s_icne {z : zT} {cc : ByteArray} {nL lv mc ms cells slots pc : Nat} {own nm : String} (hz : Cx z cc nL own nm lv mc ms) {off : Int} {tgt : Nat} (ht : (pc : Int) + off = (tgt : Int)) (d : decode cc pc = .ok (.if_icmp .ne off, 3)) {kt kf : KT} (nt : Go z cells slots tgt kt) (nf : Go z cells slots (pc + 3) kf) : Go z cells slots pc (i_icne kt kf) := by
  obtain ⟨p, l, e, R, s, m, args, below, meth, c, Q, g⟩ := z
  obtain ⟨hx, hb, hml, hown, hts, hlk, hnm, hst, hR, hB, hV⟩ := hz
  intro ls st h H locs la hk hP hS hl
  unfold i_icne at hk
  split at hk
  · next y x st' => exact lv_icmp_ne hx hb d ht (fun q => nt ls _ h H locs la (hk.1 q) hP hS hl) (fun q => nf ls _ h H locs la (hk.2 q) hP hS hl)
  · exact hk.elim
def i_iclt (kt kf : KT) : KT := fun ls st h => match st with
  | .int y :: .int x :: st' => (x < y → kt ls st' h) ∧ (¬ x < y → kf ls st' h)
  | _ => False
theorem s_iclt {z : zT} {cc : ByteArray} {nL lv mc ms cells slots pc : Nat} {own nm : String} (hz : Cx z cc nL own nm lv mc ms) {off : Int} {tgt : Nat} (ht : (pc : Int) + off = (tgt : Int)) (d : decode cc pc = .ok (.if_icmp .lt off, 3)) {kt kf : KT} (nt : Go z cells slots tgt kt) (nf : Go z cells slots (pc + 3) kf) : Go z cells slots pc (i_iclt kt kf) := by
  obtain ⟨p, l, e, R, s, m, args, below, meth, c, Q, g⟩ := z
  obtain ⟨hx, hb, hml, hown, hts, hlk, hnm, hst, hR, hB, hV⟩ := hz
  intro ls st h H locs la hk hP hS hl
  unfold i_iclt at hk
  split at hk
  · next y x st' => exact lv_icmp_lt hx hb d ht (fun q => nt ls _ h H locs la (hk.1 q) hP hS hl) (fun q => nf ls _ h H locs la (hk.2 q) hP hS hl)
  · exact hk.elim
def i_icge (kt kf : KT) : KT := fun ls st h => match st with
  | .int y :: .int x :: st' => (y ≤ x → kt ls st' h) ∧ (¬ y ≤ x → kf ls st' h)
  | _ => False
theorem s_icge {z : zT} {cc : ByteArray} {nL lv mc ms cells slots pc : Nat} {own nm : String} (hz : Cx z cc nL own nm lv mc ms) {off : Int} {tgt : Nat} (ht : (pc : Int) + off = (tgt : Int)) (d : decode cc pc = .ok (.if_icmp .ge off, 3)) {kt kf : KT} (nt : Go z cells slots tgt kt) (nf : Go z cells slots (pc + 3) kf) : Go z cells slots pc (i_icge kt kf) := by
  obtain ⟨p, l, e, R, s, m, args, below, meth, c, Q, g⟩ := z
  obtain ⟨hx, hb, hml, hown, hts, hlk, hnm, hst, hR, hB, hV⟩ := hz
  intro ls st h H locs la hk hP hS hl
  unfold i_icge at hk
  split at hk
  · next y x st' => exact lv_icmp_ge hx hb d ht (fun q => nt ls _ h H locs la (hk.1 q) hP hS hl) (fun q => nf ls _ h H locs la (hk.2 q) hP hS hl)
  · exact hk.elim
def i_icgt (kt kf : KT) : KT := fun ls st h => match st with
  | .int y :: .int x :: st' => (y < x → kt ls st' h) ∧ (¬ y < x → kf ls st' h)
  | _ => False
theorem s_icgt {z : zT} {cc : ByteArray} {nL lv mc ms cells slots pc : Nat} {own nm : String} (hz : Cx z cc nL own nm lv mc ms) {off : Int} {tgt : Nat} (ht : (pc : Int) + off = (tgt : Int)) (d : decode cc pc = .ok (.if_icmp .gt off, 3)) {kt kf : KT} (nt : Go z cells slots tgt kt) (nf : Go z cells slots (pc + 3) kf) : Go z cells slots pc (i_icgt kt kf) := by
  obtain ⟨p, l, e, R, s, m, args, below, meth, c, Q, g⟩ := z
  obtain ⟨hx, hb, hml, hown, hts, hlk, hnm, hst, hR, hB, hV⟩ := hz
  intro ls st h H locs la hk hP hS hl
  unfold i_icgt at hk
  split at hk
  · next y x st' => exact lv_icmp_gt hx hb d ht (fun q => nt ls _ h H locs la (hk.1 q) hP hS hl) (fun q => nf ls _ h H locs la (hk.2 q) hP hS hl)
  · exact hk.elim
def i_icle (kt kf : KT) : KT := fun ls st h => match st with
  | .int y :: .int x :: st' => (x ≤ y → kt ls st' h) ∧ (¬ x ≤ y → kf ls st' h)
  | _ => False
theorem s_icle {z : zT} {cc : ByteArray} {nL lv mc ms cells slots pc : Nat} {own nm : String} (hz : Cx z cc nL own nm lv mc ms) {off : Int} {tgt : Nat} (ht : (pc : Int) + off = (tgt : Int)) (d : decode cc pc = .ok (.if_icmp .le off, 3)) {kt kf : KT} (nt : Go z cells slots tgt kt) (nf : Go z cells slots (pc + 3) kf) : Go z cells slots pc (i_icle kt kf) := by
  obtain ⟨p, l, e, R, s, m, args, below, meth, c, Q, g⟩ := z
  obtain ⟨hx, hb, hml, hown, hts, hlk, hnm, hst, hR, hB, hV⟩ := hz
  intro ls st h H locs la hk hP hS hl
  unfold i_icle at hk
  split at hk
  · next y x st' => exact lv_icmp_le hx hb d ht (fun q => nt ls _ h H locs la (hk.1 q) hP hS hl) (fun q => nf ls _ h H locs la (hk.2 q) hP hS hl)
  · exact hk.elim
def i_ifnull (kt kf : KT) : KT := fun ls st h => match st with
  | v :: st' => isRf v ∧ (v = .null → kt ls st' h) ∧ (¬ v = .null → kf ls st' h)
  | _ => False
theorem s_ifnull {z : zT} {cc : ByteArray} {nL lv mc ms cells slots pc : Nat} {own nm : String} (hz : Cx z cc nL own nm lv mc ms) {off : Int} {tgt : Nat} (ht : (pc : Int) + off = (tgt : Int)) (d : decode cc pc = .ok (.ifnull off, 3)) {kt kf : KT} (nt : Go z cells slots tgt kt) (nf : Go z cells slots (pc + 3) kf) : Go z cells slots pc (i_ifnull kt kf) := by
  obtain ⟨p, l, e, R, s, m, args, below, meth, c, Q, g⟩ := z
  obtain ⟨hx, hb, hml, hown, hts, hlk, hnm, hst, hR, hB, hV⟩ := hz
  intro ls st h H locs la hk hP hS hl
  unfold i_ifnull at hk
  split at hk
  · next v st' =>
    obtain ⟨hv, h1, h2⟩ := hk
    rcases hv with rfl | ⟨a, rfl⟩
    · exact lv_ifnullN hx hb d ht (nt ls _ h H locs la (h1 rfl) hP hS hl)
    · exact lv_ifnull hx hb d (nf ls _ h H locs la (h2 (by intro q; cases q)) hP hS hl)
  · exact hk.elim
theorem s_ifnonnull {z : zT} {cc : ByteArray} {nL lv mc ms cells slots pc : Nat} {own nm : String} (hz : Cx z cc nL own nm lv mc ms) {off : Int} {tgt : Nat} (ht : (pc : Int) + off = (tgt : Int)) (d : decode cc pc = .ok (.ifnonnull off, 3)) {kt kf : KT} (nt : Go z cells slots (pc + 3) kt) (nf : Go z cells slots tgt kf) : Go z cells slots pc (i_ifnull kt kf) := by
  obtain ⟨p, l, e, R, s, m, args, below, meth, c, Q, g⟩ := z
  obtain ⟨hx, hb, hml, hown, hts, hlk, hnm, hst, hR, hB, hV⟩ := hz
  intro ls st h H locs la hk hP hS hl
  unfold i_ifnull at hk
  split at hk
  · next v st' =>
    obtain ⟨hv, h1, h2⟩ := hk
    rcases hv with rfl | ⟨a, rfl⟩
    · exact lv_ifnonnullN hx hb d (nt ls _ h H locs la (h1 rfl) hP hS hl)
    · exact lv_ifnonnull hx hb d ht (nf ls _ h H locs la (h2 (by intro q; cases q)) hP hS hl)
  · exact hk.elim
def i_aceq (kt kf : KT) : KT := fun ls st h => match st with
  | v :: w :: st' => (isRf v ∧ isRf w) ∧ (w = v → kt ls st' h) ∧ (¬ w = v → kf ls st' h)
  | _ => False
theorem s_aceq {z : zT} {cc : ByteArray} {nL lv mc ms cells slots pc : Nat} {own nm : String} (hz : Cx z cc nL own nm lv mc ms) {off : Int} {tgt : Nat} (ht : (pc : Int) + off = (tgt : Int)) (d : decode cc pc = .ok (.if_acmp .eq off, 3)) {kt kf : KT} (nt : Go z cells slots tgt kt) (nf : Go z cells slots (pc + 3) kf) : Go z cells slots pc (i_aceq kt kf) := by
  obtain ⟨p, l, e, R, s, m, args, below, meth, c, Q, g⟩ := z
  obtain ⟨hx, hb, hml, hown, hts, hlk, hnm, hst, hR, hB, hV⟩ := hz
  intro ls st h H locs la hk hP hS hl
  unfold i_aceq at hk
  split at hk
  · next v w st' =>
    obtain ⟨⟨hv, hw⟩, h1, h2⟩ := hk
    obtain ⟨o, rfl⟩ := hv.rf
    obtain ⟨o', rfl⟩ := hw.rf
    exact lv_acmp_eq hx hb d ht (fun q => nt ls _ h H locs la (h1 (by rw [q])) hP hS hl) (fun q => nf ls _ h H locs la (h2 (fun q2 => q ((rf_inj _ _).mp q2))) hP hS hl)
  · exact hk.elim
theorem s_acne {z : zT} {cc : ByteArray} {nL lv mc ms cells slots pc : Nat} {own nm : String} (hz : Cx z cc nL own nm lv mc ms) {off : Int} {tgt : Nat} (ht : (pc : Int) + off = (tgt : Int)) (d : decode cc pc = .ok (.if_acmp .ne off, 3)) {kt kf : KT} (nt : Go z cells slots (pc + 3) kt) (nf : Go z cells slots tgt kf) : Go z cells slots pc (i_aceq kt kf) := by
  obtain ⟨p, l, e, R, s, m, args, below, meth, c, Q, g⟩ := z
  obtain ⟨hx, hb, hml, hown, hts, hlk, hnm, hst, hR, hB, hV⟩ := hz
  intro ls st h H locs la hk hP hS hl
  unfold i_aceq at hk
  split at hk
  · next v w st' =>
    obtain ⟨⟨hv, hw⟩, h1, h2⟩ := hk
    obtain ⟨o, rfl⟩ := hv.rf
    obtain ⟨o', rfl⟩ := hw.rf
    exact lv_acmp_ne hx hb d ht (fun q => nf ls _ h H locs la (h2 (fun q2 => q ((rf_inj _ _).mp q2))) hP hS hl) (fun q => nt ls _ h H locs la (h1 (by rw [q])) hP hS hl)
  · exact hk.elim
