section SH2
variable {z : zT} {cc : ByteArray} {nL lv mc ms cells slots pc : Nat} {own nm : String} {k : KT}
def i_putI (kd f : Nat) (k : KT) : KT := fun ls st h => match st with
  | .int x :: .ref a :: st' => hK h a = kd ∧ k ls st' (hsI h f a 0 x)
  | _ => False
def i_putZ (kd f : Nat) (k : KT) : KT := fun ls st h => match st with
  | .int x :: .ref a :: st' => (hK h a = kd ∧ x &&& 1 = x) ∧ k ls st' (hsI h f a 0 x)
  | _ => False
def i_putR (kd f : Nat) (k : KT) : KT := fun ls st h => match st with
  | v :: .ref a :: st' => hK h a = kd ∧ ∃ o, v = va_rf o ∧ k ls st' (hsR h f a 0 o)
  | _ => False
def FinOK (f : String × String × String × Bool) (nm own : String) : Prop := f.2.2.2 = false ∨ (f.2.2.2 = true ∧ nm = "<init>" ∧ f.1 = own)
theorem narrow_z {x : Int32} (h : x &&& 1 = x) : narrow .boolean (.int x) = .int x := by
  show Value.int (x &&& 1) = .int x
  rw [h]
theorem fits_z (x : Int32) (h : x &&& 1 = x) : fits .boolean (.int x) = true := by
  have e : x = 0 ∨ x = 1 := by
    have h1 : x.toBitVec &&& 1#32 = x.toBitVec := congrArg Int32.toBitVec h
    have h2 : x.toBitVec = 0#32 ∨ x.toBitVec = 1#32 := by
      generalize x.toBitVec = b at h1
      have h3 : b.toNat % 2 = b.toNat := by
        have := congrArg BitVec.toNat h1
        simpa [BitVec.toNat_and, Nat.and_one_is_mod] using this
      have h4 : b.toNat < 2 := by omega
      have h5 : b.toNat = 0 ∨ b.toNat = 1 := by omega
      rcases h5 with h5 | h5
      · exact Or.inl (BitVec.eq_of_toNat_eq h5)
      · exact Or.inr (BitVec.eq_of_toNat_eq h5)
    rcases h2 with h2 | h2
    · exact Or.inl (Int32.toBitVec_inj.mp h2)
    · exact Or.inr (Int32.toBitVec_inj.mp h2)
  rcases e with rfl | rfl <;> rfl
theorem s_putI (hz : Cx z cc nL own nm lv mc ms) {kd f i ci ix N : Nat} {C ref : String} {T : u_T} {fl : List Bool} (hkd : kO kd = some (ci, fl)) (h0 : Nat.blt 0 kd = true) (hc : ClsOK ci C T N fl) (hf : 64 * kd + i = f) (hfl : fl[i]? = some false) (hw : FwOK own ix ref (T i)) (hd : parseFieldDescriptor (T i).2.2.1 = some .int) (hfin : FinOK (T i) nm own) (d : decode cc pc = .ok (.putfield ix, 3)) (n : Go z cells slots (pc + 3) k) : Go z cells slots pc (i_putI kd f k) := by
  obtain ⟨p, l, e, R, s, m, args, below, meth, c, Q, g⟩ := z
  obtain ⟨hx, hb, hml, hown, hts, hlk, hnm, hst, hRm, hB, hV⟩ := hz
  intro ls st h H locs la hk hP hS hl
  unfold i_putI at hk
  split at hk
  · next x a st' =>
    have hi : i < N := by rw [← hc.2.2.2.2]; exact (List.getElem?_eq_some_iff.mp hfl).1
    have h0' : kd ≠ 0 := Nat.ne_of_gt (Nat.le_of_ble_eq_true h0)
    have ka := hk.1
    have hB1 : g.1 ≤ a := by
      rcases (hP.1 a (by rw [ka]; exact h0')).1 with q | q
      · exact q.2
      · rw [ka] at q; rw [q.1] at hkd; cases hkd
    refine Wg_put hx hb hts hc hown hV.1 (rp_obj hP ka h0' hkd) i hi (hts _ hw.1) (fw_same hw hts) (by rw [hnm]; exact hfin) hd rfl rfl (by rw [hp_fs_len, hc.2.2.2.2]; exact hi) d (fun H1 j e1 e2 e3 => ?_)
    refine n ls _ _ H1 _ la hk.2 ?_ (hS.putB e2 e3 hB1) hl
    rw [← hf]
    exact rp_setI hP ka hkd hfl e1 e3
  · exact hk.elim
theorem s_putZ (hz : Cx z cc nL own nm lv mc ms) {kd f i ci ix N : Nat} {C ref : String} {T : u_T} {fl : List Bool} (hkd : kO kd = some (ci, fl)) (h0 : Nat.blt 0 kd = true) (hc : ClsOK ci C T N fl) (hf : 64 * kd + i = f) (hfl : fl[i]? = some false) (hw : FwOK own ix ref (T i)) (hd : parseFieldDescriptor (T i).2.2.1 = some .boolean) (hfin : FinOK (T i) nm own) (d : decode cc pc = .ok (.putfield ix, 3)) (n : Go z cells slots (pc + 3) k) : Go z cells slots pc (i_putZ kd f k) := by
  obtain ⟨p, l, e, R, s, m, args, below, meth, c, Q, g⟩ := z
  obtain ⟨hx, hb, hml, hown, hts, hlk, hnm, hst, hRm, hB, hV⟩ := hz
  intro ls st h H locs la hk hP hS hl
  unfold i_putZ at hk
  split at hk
  · next x a st' =>
    have hi : i < N := by rw [← hc.2.2.2.2]; exact (List.getElem?_eq_some_iff.mp hfl).1
    have h0' : kd ≠ 0 := Nat.ne_of_gt (Nat.le_of_ble_eq_true h0)
    have ka := hk.1.1
    have hB1 : g.1 ≤ a := by
      rcases (hP.1 a (by rw [ka]; exact h0')).1 with q | q
      · exact q.2
      · rw [ka] at q; rw [q.1] at hkd; cases hkd
    refine Wg_put hx hb hts hc hown hV.1 (rp_obj hP ka h0' hkd) i hi (hts _ hw.1) (fw_same hw hts) (by rw [hnm]; exact hfin) hd (narrow_z hk.1.2) (fits_z x hk.1.2) (by rw [hp_fs_len, hc.2.2.2.2]; exact hi) d (fun H1 j e1 e2 e3 => ?_)
    refine n ls _ _ H1 _ la hk.2 ?_ (hS.putB e2 e3 hB1) hl
    rw [← hf]
    exact rp_setI hP ka hkd hfl e1 e3
  · exact hk.elim
theorem s_putR (hz : Cx z cc nL own nm lv mc ms) {kd f i ci ix N : Nat} {C ref : String} {T : u_T} {fl : List Bool} {ty : FieldType} (hkd : kO kd = some (ci, fl)) (h0 : Nat.blt 0 kd = true) (hc : ClsOK ci C T N fl) (hf : 64 * kd + i = f) (hfl : fl[i]? = some true) (hw : FwOK own ix ref (T i)) (hd : parseFieldDescriptor (T i).2.2.1 = some ty) (hty : ∀ o, narrow ty (va_rf o) = va_rf o ∧ fits ty (va_rf o) = true) (hfin : FinOK (T i) nm own) (d : decode cc pc = .ok (.putfield ix, 3)) (n : Go z cells slots (pc + 3) k) : Go z cells slots pc (i_putR kd f k) := by
  obtain ⟨p, l, e, R, s, m, args, below, meth, c, Q, g⟩ := z
  obtain ⟨hx, hb, hml, hown, hts, hlk, hnm, hst, hRm, hB, hV⟩ := hz
  intro ls st h H locs la hk hP hS hl
  unfold i_putR at hk
  split at hk
  · next v a st' =>
    obtain ⟨ka, o, ev, hk⟩ := hk
    subst ev
    have hi : i < N := by rw [← hc.2.2.2.2]; exact (List.getElem?_eq_some_iff.mp hfl).1
    have h0' : kd ≠ 0 := Nat.ne_of_gt (Nat.le_of_ble_eq_true h0)
    have hB1 : g.1 ≤ a := by
      rcases (hP.1 a (by rw [ka]; exact h0')).1 with q | q
      · exact q.2
      · rw [ka] at q; rw [q.1] at hkd; cases hkd
    refine Wg_put hx hb hts hc hown hV.1 (rp_obj hP ka h0' hkd) i hi (hts _ hw.1) (fw_same hw hts) (by rw [hnm]; exact hfin) hd (hty o).1 (hty o).2 (by rw [hp_fs_len, hc.2.2.2.2]; exact hi) d (fun H1 j e1 e2 e3 => ?_)
    refine n ls _ _ H1 _ la hk ?_ (hS.putB e2 e3 hB1) hl
    rw [← hf]
    exact rp_setR hP ka hkd hfl e1 e3
  · exact hk.elim
theorem rf_obj (C : String) (o : Option Nat) : narrow (.object C) (va_rf o) = va_rf o ∧ fits (.object C) (va_rf o) = true := by cases o <;> exact ⟨rfl, rfl⟩
theorem rf_arr (t : FieldType) (o : Option Nat) : narrow (.array t) (va_rf o) = va_rf o ∧ fits (.array t) (va_rf o) = true := by cases o <;> exact ⟨rfl, rfl⟩
def i_new (kd : Nat) (k : KT) : KT := fun ls st h => ∀ q, hK h q = 0 → k ls (.ref q :: st) (hnew h q kd 0)
theorem hp_fs_new (h : hp_T) (a kd n : Nat) : ∀ (fl : List Bool) (k : Nat), hp_fs (hnew h a kd n) kd a k fl = fl.map (fun b => if b then .null else .int 0)
  | [], k => rfl
  | b :: r, k => by
    rw [hp_fs, List.map_cons, hp_fs_new h a kd n r (k + 1), hR_new, hI_new, if_pos rfl, if_pos rfl]
    rfl
theorem s_new (hz : Cx z cc nL own nm lv mc ms) {kd ci ix N : Nat} {C : String} {T : u_T} {fl : List Bool} (hkd : kO kd = some (ci, fl)) (hc : ClsOK ci C T N fl) (hw1 : Cond.classLink own ix C ∈ WS0) (hw2 : Cond.instantiable C N ∈ WS0) (hw3 : Cond.initialized C ∈ WS0) (hcc : Nat.ble (cells + 1) mc = true) (hss : Nat.ble (slots + N) ms = true) (d : decode cc pc = .ok (.new ix, 3)) (n : Go z (cells + 1) (slots + N) (pc + 3) k) : Go z cells slots pc (i_new kd k) := by
  obtain ⟨p, l, e, R, s, m, args, below, meth, c, Q, g⟩ := z
  obtain ⟨hx, hb, hml, hown, hts, hlk, hnm, hst, hRm, hB, hV⟩ := hz
  intro ls st h H locs la hk hP hS hl
  have hKn := hV.1.1 ci _ hc.1
  refine W.newcK hx hb hown (hts _ hw1) (hts _ hw2) (hts _ hw3) rfl d (Nat.le_trans (Nat.le_of_ble_eq_true hcc) hRm.2.2.1) (Nat.le_trans (Nat.le_of_ble_eq_true hss) hRm.2.2.2) hKn.2.1 rfl fun H1 kC hkC e1 z1 o1 => ?_
  refine n ls _ _ H1 locs la (hk H.size (rp_fresh hP)) ?_ (hS.grow z1 o1) hl
  refine rp_new hP (fun q => by rw [q] at hkd; cases hkd) (Nat.le_trans hB hS.1) o1 ?_
  obtain ⟨hcl, hin, hnm2, ⟨ty0, hty, hdv⟩, hlen⟩ := hc
  unfold hp_ent
  rw [hK_new, if_pos rfl, hkd]
  dsimp only
  rw [hp_fs_new]
  refine ⟨_, hcl, (u_born ty0 hts hin hKn hkC e1 hty).to (fun j hj => ?_)⟩
  have h2 := hdv j hj
  unfold vp_V
  rw [List.getD_eq_getElem?_getD, List.getElem?_map, ← h2]
  rfl
theorem hp_ar0 (h : hp_T) {kd : Nat} (a : Nat) (e : kA kd = 0 ∨ kA kd = 1) : hp_ar h kd a = (hN h a, .inl (hI h kd a)) := by
  unfold hp_ar
  rcases e with e | e <;> (rw [e])
  all_goals rfl
theorem hp_ar2 (h : hp_T) {kd : Nat} (a : Nat) (e : kA kd = 2) : hp_ar h kd a = (hN h a, .inr (.inl (fun j => (hI h kd a j).toInt64))) := by
  unfold hp_ar
  rw [e]
  rfl
theorem hp_ar3 (h : hp_T) {kd : Nat} (a : Nat) (e : kA kd = 3 ∨ kA kd = 4) : hp_ar h kd a = (hN h a, .inr (.inr (.inr (.inr (hR h kd a))))) := by
  unfold hp_ar
  rcases e with e | e <;> (rw [e])
  all_goals rfl

def i_newarr (kd N : Nat) (k : KT) : KT := fun ls st h => match st with
  | .int x :: st' => (¬ x < 0 ∧ x.toNatClampNeg ≤ N) ∧ ∀ q, hK h q = 0 → k ls (.ref q :: st') (hnew h q kd x.toNatClampNeg)
  | _ => False
theorem g_tys (g : gT) (i : Nat) (hi : i < 5) : (gTys g)[i]? = some (g.2.2.1 i, kTy i) := by
  match i, hi with
  | 0, _ => rfl
  | 1, _ => rfl
  | 2, _ => rfl
  | 3, _ => rfl
  | 4, _ => rfl
theorem s_newarr (hz : Cx z cc nL own nm lv mc ms) {kd N ka : Nat} {at0 : ArrayType} {ty : FieldType} (hkd : kO kd = none) (h9 : Nat.beq kd 190 = false) (hka : kA kd = ka) (hty : newarray.typeOf at0 = ty) (hka2 : (ka = 0 ∧ ty = .int) ∨ (ka = 1 ∧ ty = .boolean) ∨ (ka = 2 ∧ ty = .long)) (hw : Cond.arrayClass ty ∈ WS0) (hN : Nat.ble N 1000 = true) (hcc : Nat.ble (cells + 1) mc = true) (hss : Nat.ble (slots + N) ms = true) (d : decode cc pc = .ok (.newarray at0, 2)) (n : Go z (cells + 1) (slots + N) (pc + 2) k) : Go z cells slots pc (i_newarr kd N k) := by
  obtain ⟨p, l, e, R, s, m, args, below, meth, c, Q, g⟩ := z
  obtain ⟨hx, hb, hml, hown, hts, hlk, hnm, hst, hRm, hB, hV⟩ := hz
  intro ls st h H locs la hk hP hS hl
  unfold i_newarr at hk
  split at hk
  · next x st' =>
    obtain ⟨⟨hx0, hxN⟩, hk⟩ := hk
    have hN1 : N ≤ 1000 := Nat.le_of_ble_eq_true hN
    have hss1 := Nat.le_of_ble_eq_true hss
    refine va_newaK hx hb (by rw [hty]; exact hts _ hw) rfl d rfl hx0 rfl ?_ (Nat.le_trans (Nat.le_of_ble_eq_true hcc) hRm.2.2.1) (by omega) rfl fun H1 cA e1 z1 o1 hAr hNm => ?_
    · rw [hty]
      have hcb : componentBytes ty ≤ 8 := by rcases hka2 with ⟨-, rfl⟩ | ⟨-, rfl⟩ | ⟨-, rfl⟩ <;> decide
      have : x.toNatClampNeg * componentBytes ty ≤ 1000 * 8 := Nat.mul_le_mul (by omega) hcb
      omega
    · refine W.widen (k := cells + 1) (n := slots + N) (Nat.le_refl _) (by omega) ?_
      refine n ls _ _ H1 locs la (hk H.size (rp_fresh hP)) ?_ (hS.grow z1 o1) hl
      refine rp_new hP (fun q => by rw [q] at h9; cases h9) (Nat.le_trans hB hS.1) o1 ?_
      have hk5 : ka < 5 := by rcases hka2 with ⟨rfl, -⟩ | ⟨rfl, -⟩ | ⟨rfl, -⟩ <;> decide
      have hRA := (hV.1.2 ka _ (g_tys g ka hk5)).2
      have hcA : cA = g.2.2.1 ka := by
        rw [hty] at hNm
        rcases hka2 with ⟨rfl, rfl⟩ | ⟨rfl, rfl⟩ | ⟨rfl, rfl⟩ <;> exact Option.some.inj (hNm.symm.trans hRA)
      unfold hp_ent
      rw [hK_new, if_pos rfl, hkd]
      dsimp only
      rw [hka]
      rw [hcA, hty] at e1
      rcases hka2 with ⟨rfl, rfl⟩ | ⟨rfl, rfl⟩ | ⟨rfl, rfl⟩
      · rw [hp_ar0 _ _ (Or.inl hka), hN_new, if_pos rfl]
        show H1[H.size]? = some (vp_cell _ _)
        rw [vp_cell_i, e1]
        refine congrArg some (congrArg (arrV _ _) (funext fun j => ?_))
        rw [hI_new, if_pos rfl]; rfl
      · rw [hp_ar0 _ _ (Or.inr hka), hN_new, if_pos rfl]
        show H1[H.size]? = some (vp_cell _ _)
        rw [vp_cell_i, e1]
        refine congrArg some (congrArg (arrV _ _) (funext fun j => ?_))
        rw [hI_new, if_pos rfl]; rfl
      · rw [hp_ar2 _ _ hka, hN_new, if_pos rfl]
        show H1[H.size]? = some (vp_cell _ _)
        rw [vp_cell_l, e1]
        refine congrArg some (congrArg (arrV _ _) (funext fun j => ?_))
        rw [hI_new, if_pos rfl]; rfl
  · exact hk.elim
theorem s_anewarr (hz : Cx z cc nL own nm lv mc ms) {kd N ix ka : Nat} {C : String} (hkd : kO kd = none) (h9 : Nat.beq kd 190 = false) (hka : kA kd = ka) (hC : (ka = 3 ∧ C = "java/lang/Object") ∨ (ka = 4 ∧ C = "Panelry$Face")) (hw : Cond.classLink own ix C ∈ WS0) (hN : Nat.ble N 1000 = true) (hcc : Nat.ble (cells + 1) mc = true) (hss : Nat.ble (slots + N) ms = true) (d : decode cc pc = .ok (.anewarray ix, 3)) (n : Go z (cells + 1) (slots + N) (pc + 3) k) : Go z cells slots pc (i_newarr kd N k) := by
  obtain ⟨p, l, e, R, s, m, args, below, meth, c, Q, g⟩ := z
  obtain ⟨hx, hb, hml, hown, hts, hlk, hnm, hst, hRm, hB, hV⟩ := hz
  intro ls st h H locs la hk hP hS hl
  unfold i_newarr at hk
  split at hk
  · next x st' =>
    obtain ⟨⟨hx0, hxN⟩, hk⟩ := hk
    have hN1 : N ≤ 1000 := Nat.le_of_ble_eq_true hN
    have hss1 := Nat.le_of_ble_eq_true hss
    have hAO : va_AO C s := by
      rcases hC with ⟨-, rfl⟩ | ⟨-, rfl⟩
      · exact hV.2.2.2.2.1.1
      · exact hV.2.2.2.2.1.2.1
    have hms2 := hRm.2.2.2
    refine W.anew hx hb hown (hts _ hw) (va_AO.use hAO) rfl d rfl hx0 (by omega) (Nat.le_trans (Nat.le_of_ble_eq_true hcc) hRm.2.2.1) (by omega) fun cA kA0 comp f1 f2 f3 f4 => ?_
    generalize hH1 : H.push ({ cls := cA, slots := Array.replicate x.toNatClampNeg .null, vm := .none } : Cell) = H1
    have z1 : H1.size = H.size + 1 := by rw [← hH1, Array.size_push]
    have e1 : H1[H.size]? = some (arrV cA x.toNatClampNeg (fun _ => .null)) := by rw [← hH1, Array.getElem?_push_size, ← arrV_new]
    have o1 : ∀ q : Nat, q < H.size → H1[q]? = H[q]? := fun q hq => by rw [← hH1, Array.getElem?_push, if_neg (Nat.ne_of_lt hq)]
    refine W.widen (k := cells + 1) (n := slots + N) (Nat.le_refl _) (by omega) ?_
    refine n ls _ _ H1 locs la (hk H.size (rp_fresh hP)) ?_ (hS.grow z1 o1) hl
    refine rp_new hP (fun q => by rw [q] at h9; cases h9) (Nat.le_trans hB hS.1) o1 ?_
    have hk5 : ka < 5 := by rcases hC with ⟨rfl, -⟩ | ⟨rfl, -⟩ <;> decide
    have hRA := (hV.1.2 ka _ (g_tys g ka hk5)).2
    have hcA : cA = g.2.2.1 ka := by
      rcases hC with ⟨rfl, rfl⟩ | ⟨rfl, rfl⟩
      · obtain ⟨_, _, _, _, _, q⟩ := hRA
        exact Option.some.inj (f1.symm.trans q)
      · obtain ⟨_, _, _, _, _, q⟩ := hRA
        exact Option.some.inj (f1.symm.trans q)
    unfold hp_ent
    rw [hK_new, if_pos rfl, hkd]
    dsimp only
    rw [hp_ar3 _ _ (by rcases hC with ⟨q, -⟩ | ⟨q, -⟩ <;> omega), hka, hN_new, if_pos rfl]
    rw [hcA] at e1
    show H1[H.size]? = some (vp_cell _ _)
    rw [vp_cell_q, e1]
    refine congrArg some (congrArg (arrV _ _) (funext fun j => ?_))
    rw [hR_new, if_pos rfl]; rfl
  · exact hk.elim
def i_ald (kd : Nat) (k : KT) : KT := fun ls st h => match st with
  | .int i :: .ref a :: st' => (hK h a = kd ∧ vp_in i (hN h a)) ∧ k ls (.int (hI h kd a i.toNatClampNeg) :: st') h
  | _ => False
def i_lald (kd : Nat) (k : KT) : KT := fun ls st h => match st with
  | .int i :: .ref a :: st' => (hK h a = kd ∧ vp_in i (hN h a)) ∧ k ls (.long (hI h kd a i.toNatClampNeg).toInt64 :: st') h
  | _ => False
def i_aald (kd : Nat) (k : KT) : KT := fun ls st h => match st with
  | .int i :: .ref a :: st' => (hK h a = kd ∧ vp_in i (hN h a)) ∧ k ls (va_rf (hR h kd a i.toNatClampNeg) :: st') h
  | _ => False
theorem s_iald (hz : Cx z cc nL own nm lv mc ms) {kd : Nat} (hkd : kO kd = none) (h0 : Nat.blt 0 kd = true) (hka : kA kd = 0) (d : decode cc pc = .ok (.iaload, 1)) (n : Go z cells slots (pc + 1) k) : Go z cells slots pc (i_ald kd k) := by
  obtain ⟨p, l, e, R, s, m, args, below, meth, c, Q, g⟩ := z
  obtain ⟨hx, hb, hml, hown, hts, hlk, hnm, hst, hRm, hB, hV⟩ := hz
  intro ls st h H locs la hk hP hS hl
  unfold i_ald at hk
  split at hk
  · next i a st' =>
    obtain ⟨⟨ka, hin⟩, hk⟩ := hk
    have hA := va_P1 (rp_arr hP ka (Nat.ne_of_gt (Nat.le_of_ble_eq_true h0)) hkd (fun e => by rw [e] at hka; cases hka))
    rw [hka, hp_ar0 h a (Or.inl hka)] at hA
    exact va_iald hx hb hV.1 hA 0 0 rfl (g_tys g 0 (by decide)) hin d (n ls _ h H locs la hk hP hS hl)
  · exact hk.elim
theorem s_zald (hz : Cx z cc nL own nm lv mc ms) {kd : Nat} (hkd : kO kd = none) (h0 : Nat.blt 0 kd = true) (hka : kA kd = 1) (d : decode cc pc = .ok (.baload, 1)) (n : Go z cells slots (pc + 1) k) : Go z cells slots pc (i_ald kd k) := by
  obtain ⟨p, l, e, R, s, m, args, below, meth, c, Q, g⟩ := z
  obtain ⟨hx, hb, hml, hown, hts, hlk, hnm, hst, hRm, hB, hV⟩ := hz
  intro ls st h H locs la hk hP hS hl
  unfold i_ald at hk
  split at hk
  · next i a st' =>
    obtain ⟨⟨ka, hin⟩, hk⟩ := hk
    have hA := va_P1 (rp_arr hP ka (Nat.ne_of_gt (Nat.le_of_ble_eq_true h0)) hkd (fun e => by rw [e] at hka; cases hka))
    rw [hka, hp_ar0 h a (Or.inr hka)] at hA
    exact va_zald hx hb hV.1 hA 0 1 rfl (g_tys g 1 (by decide)) hin d (n ls _ h H locs la hk hP hS hl)
  · exact hk.elim
theorem s_lald (hz : Cx z cc nL own nm lv mc ms) {kd : Nat} (hkd : kO kd = none) (h0 : Nat.blt 0 kd = true) (hka : kA kd = 2) (d : decode cc pc = .ok (.laload, 1)) (n : Go z cells slots (pc + 1) k) : Go z cells slots pc (i_lald kd k) := by
  obtain ⟨p, l, e, R, s, m, args, below, meth, c, Q, g⟩ := z
  obtain ⟨hx, hb, hml, hown, hts, hlk, hnm, hst, hRm, hB, hV⟩ := hz
  intro ls st h H locs la hk hP hS hl
  unfold i_lald at hk
  split at hk
  · next i a st' =>
    obtain ⟨⟨ka, hin⟩, hk⟩ := hk
    have hA := va_P1 (rp_arr hP ka (Nat.ne_of_gt (Nat.le_of_ble_eq_true h0)) hkd (fun e => by rw [e] at hka; cases hka))
    rw [hka, hp_ar2 h a hka] at hA
    exact va_lald hx hb hV.1 hA 0 2 rfl (g_tys g 2 (by decide)) hin d (n ls _ h H locs la hk hP hS hl)
  · exact hk.elim
theorem s_aald (hz : Cx z cc nL own nm lv mc ms) {kd ka : Nat} (hkd : kO kd = none) (h0 : Nat.blt 0 kd = true) (hka : kA kd = ka) (hka2 : ka = 3 ∨ ka = 4) (d : decode cc pc = .ok (.aaload, 1)) (n : Go z cells slots (pc + 1) k) : Go z cells slots pc (i_aald kd k) := by
  obtain ⟨p, l, e, R, s, m, args, below, meth, c, Q, g⟩ := z
  obtain ⟨hx, hb, hml, hown, hts, hlk, hnm, hst, hRm, hB, hV⟩ := hz
  intro ls st h H locs la hk hP hS hl
  unfold i_aald at hk
  split at hk
  · next i a st' =>
    obtain ⟨⟨ka, hin⟩, hk⟩ := hk
    have k9 : kd ≠ 190 := fun e => by
      have e0 := ((hP.1 a (by rw [ka]; exact Nat.ne_of_gt (Nat.le_of_ble_eq_true h0))).2.2 (ka.trans e)).1
      rw [e0] at hin
      exact hin (Or.inr (Nat.zero_le _))
    have hA := va_P1 (rp_arr hP ka (Nat.ne_of_gt (Nat.le_of_ble_eq_true h0)) hkd k9)
    rw [hp_ar3 h a (by rw [hka]; exact hka2), hka] at hA
    rcases hka2 with rfl | rfl
    · exact va_aldq hx hb hV.1 hA 0 3 rfl (g_tys g 3 (by decide)) hin d (n ls _ h H locs la hk hP hS hl)
    · exact va_aldq hx hb hV.1 hA 0 4 rfl (g_tys g 4 (by decide)) hin d (n ls _ h H locs la hk hP hS hl)
  · exact hk.elim
def i_alen (k : KT) : KT := fun ls st h => match st with
  | .ref a :: st' => (kO (hK h a) = none ∧ hK h a ≠ 0) ∧ k ls (.int (Int32.ofNat (hN h a)) :: st') h
  | _ => False
theorem kA_lt (kd : Nat) : kA kd < 5 := by
  unfold kA
  split
  · decide
  · split
    · decide
    · split
      · decide
      · split <;> decide
theorem s_alen (hz : Cx z cc nL own nm lv mc ms) (d : decode cc pc = .ok (.arraylength, 1)) (n : Go z cells slots (pc + 1) k) : Go z cells slots pc (i_alen k) := by
  obtain ⟨p, l, e, R, s, m, args, below, meth, c, Q, g⟩ := z
  obtain ⟨hx, hb, hml, hown, hts, hlk, hnm, hst, hRm, hB, hV⟩ := hz
  intro ls st h H locs la hk hP hS hl
  unfold i_alen at hk
  split at hk
  · next a st' =>
    obtain ⟨⟨ka, k0⟩, hk⟩ := hk
    by_cases k9 : hK h a = 190
    · obtain ⟨e0, cell, c1, c2, c3, c4, c5⟩ := (hP.1 a k0).2.2 k9
      rw [e0] at hk
      obtain ⟨-, kA0, hkA, comp, hkind⟩ := (hV.1.2 3 _ (g_tys g 3 (by decide))).1 0 (fun _ => .null)
      exact W.alen (n := Int32.ofNat 0) hx hb c1 ⟨(fun k q => by rw [q] at c4; cases c4), kA0, by rw [c2]; exact hkA, comp, hkind⟩ (by rw [c5] <;> rfl) rfl rfl d (n ls _ h H locs la hk hP hS hl)
    · exact va_alen hx hb hV.1 (va_P1 (rp_arr hP rfl k0 ka k9)) 0 (kA (hK h a)) rfl (g_tys g _ (kA_lt _)) rfl d (n ls _ h H locs la hk hP hS hl)
  · exact hk.elim
def i_ast (kd : Nat) (k : KT) : KT := fun ls st h => match st with
  | .int x :: .int i :: .ref a :: st' => (hK h a = kd ∧ vp_in i (hN h a)) ∧ k ls st' (hsI h kd a i.toNatClampNeg x)
  | _ => False
def i_zast (kd : Nat) (k : KT) : KT := fun ls st h => match st with
  | .int x :: .int i :: .ref a :: st' => (hK h a = kd ∧ vp_in i (hN h a) ∧ x &&& 1 = x) ∧ k ls st' (hsI h kd a i.toNatClampNeg x)
  | _ => False
def i_last (kd : Nat) (k : KT) : KT := fun ls st h => match st with
  | .long y :: .int i :: .ref a :: st' => (hK h a = kd ∧ vp_in i (hN h a)) ∧ ∃ x : Int32, y = x.toInt64 ∧ k ls st' (hsI h kd a i.toNatClampNeg x)
  | _ => False
def i_aast (kd kv : Nat) (k : KT) : KT := fun ls st h => match st with
  | .ref v :: .int i :: .ref a :: st' => (hK h a = kd ∧ hK h v = kv ∧ vp_in i (hN h a)) ∧ k ls st' (hsR h kd a i.toNatClampNeg (some v))
  | _ => False
theorem s_iast (hz : Cx z cc nL own nm lv mc ms) {kd : Nat} (hkd : kO kd = none) (h0 : Nat.blt 0 kd = true) (h9 : Nat.beq kd 190 = false) (hka : kA kd = 0) (d : decode cc pc = .ok (.iastore, 1)) (n : Go z cells slots (pc + 1) k) : Go z cells slots pc (i_ast kd k) := by
  obtain ⟨p, l, e, R, s, m, args, below, meth, c, Q, g⟩ := z
  obtain ⟨hx, hb, hml, hown, hts, hlk, hnm, hst, hRm, hB, hV⟩ := hz
  intro ls st h H locs la hk hP hS hl
  unfold i_ast at hk
  split at hk
  · next x i a st' =>
    obtain ⟨⟨ka, hin⟩, hk⟩ := hk
    have k0 : kd ≠ 0 := Nat.ne_of_gt (Nat.le_of_ble_eq_true h0)
    have hB1 : g.1 ≤ a := by
      rcases (hP.1 a (by rw [ka]; exact k0)).1 with q | q
      · exact q.2
      · rw [ka] at q; rw [q.1] at h9; cases h9
    have hA := rp_arr hP ka k0 hkd (fun e => by rw [e] at h9; cases h9)
    rw [hka, hp_ar0 h a (Or.inl hka)] at hA
    refine W.iast hx hb hA ((hV.1.2 0 _ (g_tys g 0 (by decide))).1 (hN h a) (fun j => .int (hI h kd a j))) (fun q => by cases q) (by show ¬ (i < 0 ∨ (arrV _ _ _).slots.size ≤ _); rw [arrV_size]; exact hin) rfl rfl d fun H1 e1 z1 oq => ?_
    refine n ls _ _ H1 _ la hk (rp_setAI hP ka hkd (fun e => by rw [e] at h9; cases h9) ?_ oq) (hS.putB z1 oq hB1) hl
    rw [hka, hp_ar0 _ a (Or.inl hka)]
    show H1[a]? = some (vp_cell _ _)
    rw [e1]
    rw [vp_cell_i, vp_cell_i, arrV_store]
    refine congrArg some (congrArg (arrV _ _) (funext fun q => ?_))
    by_cases hq : q = i.toNatClampNeg
    · subst hq
      simp [updV, hI_sI]
    · simp [updV, hq, hI_sI]
  · exact hk.elim
theorem s_zast (hz : Cx z cc nL own nm lv mc ms) {kd : Nat} (hkd : kO kd = none) (h0 : Nat.blt 0 kd = true) (h9 : Nat.beq kd 190 = false) (hka : kA kd = 1) (d : decode cc pc = .ok (.bastore, 1)) (n : Go z cells slots (pc + 1) k) : Go z cells slots pc (i_zast kd k) := by
  obtain ⟨p, l, e, R, s, m, args, below, meth, c, Q, g⟩ := z
  obtain ⟨hx, hb, hml, hown, hts, hlk, hnm, hst, hRm, hB, hV⟩ := hz
  intro ls st h H locs la hk hP hS hl
  unfold i_zast at hk
  split at hk
  · next x i a st' =>
    obtain ⟨⟨ka, hin, hx1⟩, hk⟩ := hk
    have k0 : kd ≠ 0 := Nat.ne_of_gt (Nat.le_of_ble_eq_true h0)
    have hB1 : g.1 ≤ a := by
      rcases (hP.1 a (by rw [ka]; exact k0)).1 with q | q
      · exact q.2
      · rw [ka] at q; rw [q.1] at h9; cases h9
    have hA := rp_arr hP ka k0 hkd (fun e => by rw [e] at h9; cases h9)
    rw [hka, hp_ar0 h a (Or.inr hka)] at hA
    refine W.zast hx hb hA ((hV.1.2 1 _ (g_tys g 1 (by decide))).1 (hN h a) (fun j => .int (hI h kd a j))) (fun q => by cases q) (by show ¬ (i < 0 ∨ (arrV _ _ _).slots.size ≤ _); rw [arrV_size]; exact hin) rfl rfl d fun H1 e1 z1 oq => ?_
    refine n ls _ _ H1 _ la hk (rp_setAI hP ka hkd (fun e => by rw [e] at h9; cases h9) ?_ oq) (hS.putB z1 oq hB1) hl
    rw [hka, hp_ar0 _ a (Or.inr hka)]
    show H1[a]? = some (vp_cell _ _)
    rw [e1]
    rw [vp_cell_i, vp_cell_i, arrV_store]
    refine congrArg some (congrArg (arrV _ _) (funext fun q => ?_))
    by_cases hq : q = i.toNatClampNeg
    · subst hq
      simp [updV, hI_sI, narrow_z hx1]
    · simp [updV, hq, hI_sI]
  · exact hk.elim
theorem s_last (hz : Cx z cc nL own nm lv mc ms) {kd : Nat} (hkd : kO kd = none) (h0 : Nat.blt 0 kd = true) (h9 : Nat.beq kd 190 = false) (hka : kA kd = 2) (d : decode cc pc = .ok (.lastore, 1)) (n : Go z cells slots (pc + 1) k) : Go z cells slots pc (i_last kd k) := by
  obtain ⟨p, l, e, R, s, m, args, below, meth, c, Q, g⟩ := z
  obtain ⟨hx, hb, hml, hown, hts, hlk, hnm, hst, hRm, hB, hV⟩ := hz
  intro ls st h H locs la hk hP hS hl
  unfold i_last at hk
  split at hk
  · next y i a st' =>
    obtain ⟨⟨ka, hin⟩, x, rfl, hk⟩ := hk
    have k0 : kd ≠ 0 := Nat.ne_of_gt (Nat.le_of_ble_eq_true h0)
    have hB1 : g.1 ≤ a := by
      rcases (hP.1 a (by rw [ka]; exact k0)).1 with q | q
      · exact q.2
      · rw [ka] at q; rw [q.1] at h9; cases h9
    have hA := rp_arr hP ka k0 hkd (fun e => by rw [e] at h9; cases h9)
    rw [hka, hp_ar2 h a hka] at hA
    refine W.last hx hb hA ((hV.1.2 2 _ (g_tys g 2 (by decide))).1 (hN h a) (fun j => .long (hI h kd a j).toInt64)) (fun q => by cases q) (by show ¬ (i < 0 ∨ (arrV _ _ _).slots.size ≤ _); rw [arrV_size]; exact hin) rfl rfl d fun H1 e1 z1 oq => ?_
    refine n ls _ _ H1 _ la hk (rp_setAI hP ka hkd (fun e => by rw [e] at h9; cases h9) ?_ oq) (hS.putB z1 oq hB1) hl
    rw [hka, hp_ar2 _ a hka]
    show H1[a]? = some (vp_cell _ _)
    rw [e1]
    rw [vp_cell_l, vp_cell_l, arrV_store]
    refine congrArg some (congrArg (arrV _ _) (funext fun q => ?_))
    by_cases hq : q = i.toNatClampNeg
    · subst hq
      simp [updV, hI_sI]
    · simp [updV, hq, hI_sI]
  · exact hk.elim
theorem s_aast (hz : Cx z cc nL own nm lv mc ms) {kd kv ci ka N : Nat} {C E : String} {T : u_T} {fl : List Bool} (hkd : kO kd = none) (h0 : Nat.blt 0 kd = true) (h9 : Nat.beq kd 190 = false) (hka : kA kd = ka) (hkv : kO kv = some (ci, fl)) (hv0 : Nat.blt 0 kv = true) (hc : ClsOK ci C T N fl) (hE : kTy ka = .object E) (hka2 : ka = 3 ∨ ka = 4) (hasg : C = E ∨ Cond.castable C E ∈ lw_tbl) (d : decode cc pc = .ok (.aastore, 1)) (n : Go z cells slots (pc + 1) k) : Go z cells slots pc (i_aast kd kv k) := by
  obtain ⟨p, l, e, R, s, m, args, below, meth, c, Q, g⟩ := z
  obtain ⟨hx, hb, hml, hown, hts, hlk, hnm, hst, hRm, hB, hV⟩ := hz
  intro ls st h H locs la hk hP hS hl
  unfold i_aast at hk
  split at hk
  · next v i a st' =>
    obtain ⟨⟨ka0, kv0, hin⟩, hk⟩ := hk
    have k0 : kd ≠ 0 := Nat.ne_of_gt (Nat.le_of_ble_eq_true h0)
    have kv1 : kv ≠ 0 := Nat.ne_of_gt (Nat.le_of_ble_eq_true hv0)
    have hB1 : g.1 ≤ a := by
      rcases (hP.1 a (by rw [ka0]; exact k0)).1 with q | q
      · exact q.2
      · rw [ka0] at q; rw [q.1] at h9; cases h9
    have hA := rp_arr hP ka0 k0 hkd (fun e => by rw [e] at h9; cases h9)
    rw [hp_ar3 h a (by rw [hka]; exact hka2), hka] at hA
    have hk5 : ka < 5 := by rcases hka2 with rfl | rfl <;> decide
    have hRA := (hV.1.2 ka _ (g_tys g ka hk5)).2
    rw [hE] at hRA
    have hr : va_Any E s H v := by
      refine va_rAny (q0 := 0) (r := (C, T, N)) hV.1 (va_P1 (rp_obj hP kv0 kv1 hkv)) rfl hc.1 (fun comp c0 f1 f2 => ?_)
      rcases hasg with rfl | hmem
      · cases f1.symm.trans f2
        exact va_asg _ _
      · obtain ⟨c1, t1, w1, w2, w3⟩ := Cond.castable_spec (va_Nw.use (A := args) rfl (hV.2.2.2.1 _ hmem rfl))
        cases f2.symm.trans w1
        cases f1.symm.trans w2
        exact w3
    have hlt : i.toNatClampNeg < hN h a := Nat.not_le.mp fun q => hin (Or.inr q)
    have hi0 : ¬ i < 0 := fun q => hin (Or.inl q)
    obtain ⟨cellV, g1, g3, ⟨kC, hkC⟩, hasg2⟩ := hr
    obtain ⟨kA1, comp, k1, k2, k3, -⟩ := hRA
    obtain ⟨kE, hkE, -⟩ := Vm.findClass_spec k3
    refine W.aast hx hb hA (fun q h => by cases h) (fun h => by cases h) k1 k2 rfl hkE ⟨hi0, by show _ < (arrV _ _ _).slots.size; rw [arrV_size]; exact hlt⟩ g1 (fun q h => by rw [h] at g3; cases g3) hkC (hasg2 _ k3) rfl rfl d fun H1 e1 z1 oq => ?_
    refine n ls _ _ H1 _ la hk (rp_setAR hP ka0 hkd (fun e => by rw [e] at h9; cases h9) ?_ oq) (hS.putB z1 oq hB1) hl
    rw [hka, hp_ar3 _ a (by rw [hka]; exact hka2)]
    show H1[a]? = some (vp_cell _ _)
    rw [e1]
    rw [vp_cell_q, vp_cell_q, arrV_store]
    refine congrArg some (congrArg (arrV _ _) (funext fun q => ?_))
    by_cases hq : q = i.toNatClampNeg
    · subst hq
      simp [updV, hR_sR, va_rf]
    · simp [updV, hq, hR_sR]
  · exact hk.elim
theorem cat_sum : ∀ st : List Value, (st.map fun v => v.category).sum ≤ 2 * st.length
  | [] => Nat.le_refl _
  | v :: r => by
    have h := cat_sum r
    have h2 : v.category ≤ 2 := by rcases lv_cat v with q | q <;> omega
    simp only [List.map_cons, List.sum_cons, List.length_cons]
    omega
def i_cast (kd : Nat) (k : KT) : KT := fun ls st h => match st with
  | v :: st' => (v = .null ∨ ∃ a, v = .ref a ∧ hK h a = kd) ∧ k ls (v :: st') h
  | _ => False
theorem s_cast (hz : Cx z cc nL own nm lv mc ms) {kd ci ix N : Nat} {C : String} {T : u_T} {fl : List Bool} (hkd : kO kd = some (ci, fl)) (h0 : Nat.blt 0 kd = true) (hc : ClsOK ci C T N fl) (hw : Cond.classLink own ix C ∈ WS0) (d : decode cc pc = .ok (.checkcast ix, 3)) (n : Go z cells slots (pc + 3) k) : Go z cells slots pc (i_cast kd k) := by
  obtain ⟨p, l, e, R, s, m, args, below, meth, c, Q, g⟩ := z
  obtain ⟨hx, hb, hml, hown, hts, hlk, hnm, hst, hRm, hB, hV⟩ := hz
  intro ls st h H locs la hk hP hS hl
  unfold i_cast at hk
  split at hk
  · next v st' =>
    obtain ⟨hv, hk⟩ := hk
    rcases hv with rfl | ⟨a, rfl, ka⟩
    · exact lv_castN hx hb d (n ls _ h H locs la hk hP hS hl)
    · exact va_castS hx hb hown (hts _ hw) (hV.1.1 ci _ hc.1).2 (va_recv hV.1 (va_P1 (rp_obj hP ka (Nat.ne_of_gt (Nat.le_of_ble_eq_true h0)) hkd)) hc.1 (q0 := 0) rfl) d (n ls _ h H locs la hk hP hS hl)
  · exact hk.elim
def i_gste (k : KT) : KT := fun ls st h => (hK h (hC h 0) = 190 ∧ hN h (hC h 0) = 0) → k ls (.ref (hC h 0) :: st) h
theorem s_gste (hz : Cx z cc nL own nm lv mc ms) {ix : Nat} (hw : Cond.fieldLink own ix "java/util/ArrayList" "DEFAULTCAPACITY_EMPTY_ELEMENTDATA" "[Ljava/lang/Object;" ∈ WS0) (d : decode cc pc = .ok (.getstatic ix, 3)) (n : Go z cells slots (pc + 3) k) : Go z cells slots pc (i_gste k) := by
  obtain ⟨p, l, e, R, s, m, args, below, meth, c, Q, g⟩ := z
  obtain ⟨hx, hb, hml, hown, hts, hlk, hnm, hst, hRm, hB, hV⟩ := hz
  intro ls st h H locs la hk hP hS hl
  have h0 := hP.2.1
  have h1 := hk ⟨by rw [h0]; exact hP.2.2.2.1, by rw [h0]; exact hP.2.2.2.2⟩
  rw [h0] at h1
  exact va_gets hx hb hV.2.2.2.2.2.2.2 hS hown (hts _ hw) (fun _ q => q) d (n ls _ h H locs la h1 hP hS hl)
def i_ldcM (k : KT) : KT := fun ls st h => k ls (.ref (hC h 1) :: st) h
theorem s_ldcM (hz : Cx z cc nL own nm lv mc ms) {ix : Nat} (hw : Cond.classLink own ix "[Ljava/lang/Object;" ∈ WS0) (d : decode cc pc = .ok (.ldc ix, 2)) (n : Go z cells slots (pc + 2) k) : Go z cells slots pc (i_ldcM k) := by
  obtain ⟨p, l, e, R, s, m, args, below, meth, c, Q, g⟩ := z
  obtain ⟨hx, hb, hml, hown, hts, hlk, hnm, hst, hRm, hB, hV⟩ := hz
  intro ls st h H locs la hk hP hS hl
  unfold i_ldcM at hk
  rw [hP.2.2.1] at hk
  exact va_ldcM hx hb hown (hts _ hw) hV.2.2.2.2.1.2.2.2 d (n ls _ h H locs la hk hP hS hl)
/-- getClass() of an array of Objects -/
def i_getC (k : KT) : KT := fun ls st h => match st with
  | .ref a :: st' => (kO (hK h a) = none ∧ kA (hK h a) = 3 ∧ hK h a ≠ 0 ∧ st'.length ≤ 4) ∧ k ls (.ref (hC h 1) :: st') h
  | _ => False
abbrev mGC : MethodName := ⟨"java/lang/Object", "getClass", "()Ljava/lang/Class;"⟩
theorem s_getC (hz : Cx z cc nL own nm lv mc ms) {ix : Nat} (w1 : Cond.methodLink own ix mGC ∈ WS0) (w2 : Cond.selects "[Ljava/lang/Object;" mGC mGC ∈ WS0) (w3 : Cond.instanceMethod mGC ∈ WS0) (w4 : Cond.native mGC ∈ WS0) (h1 : Nat.ble 1 lv = true) (d : decode cc pc = .ok (.invokevirtual ix, 3)) (n : Go z cells slots (pc + 3) k) : Go z cells slots pc (i_getC k) := by
  obtain ⟨p, l, e, R, s, m, args, below, meth, c, Q, g⟩ := z
  obtain ⟨hx, hb, hml, hown, hts, hlk, hnm, hst, hRm, hB, hV⟩ := hz
  intro ls st h H locs la hk hP hS hl
  unfold i_getC at hk
  split at hk
  · next a st' =>
    obtain ⟨⟨ka, kb, k0, hr4⟩, hk⟩ := hk
    rw [hP.2.2.1] at hk
    have g1 := Nat.le_of_ble_eq_true h1
    have hcs := cat_sum st'
    have hRA := (hV.1.2 3 _ (g_tys g 3 (by decide))).2
    have k4 := va_nmO (nm := "[Ljava/lang/Object;") hRA (by decide)
    have hrc : ∃ cell : Cell, H[a]? = some cell ∧ cell.vm.isStatics = false ∧ s.vm.findClass "[Ljava/lang/Object;" = some cell.cls := by
      by_cases k9 : hK h a = 190
      · obtain ⟨e0, cell, c1, c2, c3, c4, c5⟩ := (hP.1 a k0).2.2 k9
        exact ⟨cell, c1, c4, by rw [c2]; exact k4⟩
      · have hA := rp_arr hP rfl k0 ka k9
        rw [hp_ar3 h a (Or.inl kb), kb] at hA
        exact ⟨_, hA, rfl, k4⟩
    exact va_getC hx hb hl.1.symm (C := "[Ljava/lang/Object;") hown (hts _ w1) (va_Dc.use hV.2.2.2.2.1.2.2.1) (hts _ w2) (hts _ w3) (hts _ w4) hV.2.2.2.2.1.2.2.2 hrc (by omega) (by omega) d (n ls _ h H locs la hk hP hS hl)
  · exact hk.elim
/-- System.arraycopy from the beginning of an array of Objects to the beginning of a new one -/
def hcopy (h : hp_T) (kd b : Nat) (f : Nat → Option Nat) : hp_T := (h.1, h.2.1, h.2.2.1, fun g x i => if g = kd ∧ x = b then f i else h.2.2.2.1 g x i, h.2.2.2.2)
theorem hR_copy (h : hp_T) (kd b : Nat) (f : Nat → Option Nat) (g x i : Nat) : hR (hcopy h kd b f) g x i = if g = kd ∧ x = b then f i else hR h g x i := rfl
theorem hK_copy (h : hp_T) (kd b : Nat) (f : Nat → Option Nat) (x : Nat) : hK (hcopy h kd b f) x = hK h x := rfl
theorem hN_copy (h : hp_T) (kd b : Nat) (f : Nat → Option Nat) (x : Nat) : hN (hcopy h kd b f) x = hN h x := rfl
theorem hI_copy (h : hp_T) (kd b : Nat) (f : Nat → Option Nat) (g x i : Nat) : hI (hcopy h kd b f) g x i = hI h g x i := rfl
theorem hC_copy (h : hp_T) (kd b : Nat) (f : Nat → Option Nat) (i : Nat) : hC (hcopy h kd b f) i = hC h i := rfl
def objK (kd : Nat) : Prop := kd = 5 ∨ kd = 9 ∨ kd = 6 ∨ kd = 2
def i_acopy (kd : Nat) (k : KT) : KT := fun ls st h => match st with
  | .int n :: .int dp :: .ref b :: .int sp :: .ref a :: st' => (dp = 0 ∧ sp = 0 ∧ ¬ n < 0 ∧ n.toNatClampNeg ≤ hN h a ∧ n.toNatClampNeg ≤ hN h b ∧ hK h a = kd ∧ hK h b = kd ∧ st'.length ≤ 4 ∧ ∀ i, i < n.toNatClampNeg → ∀ y, hR h kd a i = some y → objK (hK h y)) ∧ k ls st' (hcopy h kd b (fun i => if i < n.toNatClampNeg then hR h kd a i else hR h kd b i))
  | _ => False
def hp_ws (cy : Nat → ClassId) (h : hp_T) (n : Nat) : va_W := (List.range n).filterMap (fun a => if hK h a = 0 ∨ hK h a = 190 then none else some (a, hp_ent cy h a))
theorem hp_ws_mem {cy : Nat → ClassId} {h : hp_T} {n : Nat} {q : Nat × va_E} (hq : q ∈ hp_ws cy h n) : (hK h q.1 ≠ 0 ∧ hK h q.1 ≠ 190) ∧ q.2 = hp_ent cy h q.1 := by
  obtain ⟨a, -, e⟩ := List.mem_filterMap.mp hq
  split at e
  · cases e
  · next c => cases e; exact ⟨⟨fun z => c (Or.inl z), fun z => c (Or.inr z)⟩, rfl⟩
theorem hp_ws_in {cy : Nat → ClassId} {h : hp_T} {n a : Nat} (h1 : a < n) (h2 : hK h a ≠ 0) (h3 : hK h a ≠ 190) : ∃ k : Nat, (hp_ws cy h n)[k]? = some (a, hp_ent cy h a) := by
  refine List.getElem?_of_mem (List.mem_filterMap.mpr ⟨a, List.mem_range.mpr h1, ?_⟩)
  rw [if_neg (fun z => z.elim h2 h3)]
theorem hp_ws_pw (cy : Nat → ClassId) (h : hp_T) (n : Nat) : (hp_ws cy h n).Pairwise (fun p q => p.1 < q.1) := by
  unfold hp_ws
  refine List.Pairwise.filterMap _ ?_ List.pairwise_lt_range
  intro a b hab x hx y hy
  split at hx
  · cases hx
  · split at hy
    · cases hy
    · cases hx; cases hy; exact hab
theorem hp_ws_D {g : gT} {h : hp_T} {H : Heap} (hP : gRPh g h H) (n : Nat) : va_D (gA g) (hp_ws g.2.2.1 h n) := by
  refine ⟨fun i j p q hi hj e => ?_, fun k q hk => ?_⟩
  · have pw := List.pairwise_iff_getElem.mp (hp_ws_pw g.2.2.1 h n)
    obtain ⟨hi1, rfl⟩ := List.getElem?_eq_some_iff.mp hi
    obtain ⟨hj1, rfl⟩ := List.getElem?_eq_some_iff.mp hj
    rcases Nat.lt_trichotomy i j with c | c | c
    · exact absurd (pw i j hi1 hj1 c) (by rw [e]; exact Nat.lt_irrefl _)
    · exact c
    · exact absurd (pw j i hj1 hi1 c) (by rw [e]; exact Nat.lt_irrefl _)
  · obtain ⟨⟨h1, h2⟩, -⟩ := hp_ws_mem (List.mem_of_getElem? hk)
    rcases (hP.1 q.1 h1).1 with c | c
    · exact c.2
    · exact absurd c.1 h2
theorem hp_ws_P {g : gT} {h : hp_T} {H : Heap} (hP : gRPh g h H) (n : Nat) : va_P g.2.1 vwCl (hp_ws g.2.2.1 h n) H := by
  intro k q hk
  obtain ⟨⟨h1, h2⟩, h3⟩ := hp_ws_mem (List.mem_of_getElem? hk)
  have h4 := (hP.1 q.1 h1).2.1 h2
  rw [← h3] at h4
  exact h4
theorem s_acopy (hz : Cx z cc nL own nm lv mc ms) {ix kd : Nat} (hkd : kO kd = none) (h0 : Nat.blt 0 kd = true) (h9 : Nat.beq kd 190 = false) (hka : kA kd = 3) (w1 : Cond.methodLink own ix arraycopyName ∈ WS0) (w2 : Cond.native arraycopyName ∈ WS0) (w3 : Cond.static arraycopyName ∈ WS0) (w4 : Cond.initialized "java/lang/System" ∈ WS0) (h1 : Nat.ble 2 lv = true)
    (hasg : ∀ n ∈ ["Panelry$Page", "Panelry$Panel", "Panelry$Balloon", "Panelry$Telling"], Cond.castable n "java/lang/Object" ∈ lw_tbl) (d : decode cc pc = .ok (.invokestatic ix, 3)) (nx : Go z cells slots (pc + 3) k) : Go z cells slots pc (i_acopy kd k) := by
  obtain ⟨p, l, e, R, s, m, args, below, meth, c, Q, g⟩ := z
  obtain ⟨hx, hb, hml, hown, hts, hlk, hnm, hst, hRm, hB, hV⟩ := hz
  intro ls st h H locs la hk hP hS hl
  unfold i_acopy at hk
  split at hk
  · next n dp b sp a st' =>
    obtain ⟨⟨rfl, rfl, n0, n1, n2, ka, kb, hr4, hel⟩, hk⟩ := hk
    have g1 := Nat.le_of_ble_eq_true h1
    have hcs := cat_sum st'
    have k0 : kd ≠ 0 := Nat.ne_of_gt (Nat.le_of_ble_eq_true h0)
    have k9 : kd ≠ 190 := fun q => by rw [q] at h9; cases h9
    have hent : ∀ x, hK h x = kd → hp_ent g.2.2.1 h x = .inl (g.2.2.1 3, hN h x, .inr (.inr (.inr (.inr (hR h kd x))))) := fun x kx => by
      unfold hp_ent
      rw [kx, hkd]
      dsimp only
      rw [hka, hp_ar3 h x (Or.inl hka)]
    obtain ⟨pa, ea⟩ := hp_ws_in (cy := g.2.2.1) (rp_lt hP (a := a) (by rw [ka]; exact k0)) (by rw [ka]; exact k0) (by rw [ka]; exact k9)
    obtain ⟨pb, eb⟩ := hp_ws_in (cy := g.2.2.1) (rp_lt hP (a := b) (by rw [kb]; exact k0)) (by rw [kb]; exact k0) (by rw [kb]; exact k9)
    rw [hent a ka] at ea
    rw [hent b kb] at eb
    have z0 : (0 : Int32).toNatClampNeg = 0 := by decide
    have hany : ∀ y, objK (hK h y) → va_Any "java/lang/Object" s H y := by
      intro y hy
      have go : ∀ {kv ci N : Nat} {C : String} {T : u_T} {fl : List Bool}, hK h y = kv → kO kv = some (ci, fl) → kv ≠ 0 → ClsOK ci C T N fl → Cond.castable C "java/lang/Object" ∈ lw_tbl → va_Any "java/lang/Object" s H y := by
        intro kv ci N C T fl e1 e2 e3 hc hm
        refine va_rAny (q0 := 0) (r := (C, T, N)) hV.1 (va_P1 (rp_obj hP e1 e3 e2)) rfl hc.1 (fun comp c0 f1 f2 => ?_)
        obtain ⟨c1, t1, w1, w2, w3⟩ := Cond.castable_spec (va_Nw.use (A := args) rfl (hV.2.2.2.1 _ hm rfl))
        cases f2.symm.trans w1
        cases f1.symm.trans w2
        exact w3
      rcases hy with e | e | e | e
      · exact go e rfl (by decide) cls4 (hasg _ (by decide))
      · exact go e rfl (by decide) cls8 (hasg _ (by decide))
      · exact go e rfl (by decide) cls5 (hasg _ (by decide))
      · exact go e rfl (by decide) cls1 (hasg _ (by decide))
    refine va_copyM hx hb hl.1.symm hown (hts _ w1) (hts _ w2) (hts _ w3) (hts _ w4) hV.1 (hp_ws_P hP H.size) (hp_ws_D hP H.size) hS pa pb 3 3 ea eb (g_tys g 3 (by decide)) (g_tys g 3 (by decide)) (by decide) (by decide) n0 (by rw [z0, Nat.zero_add]; exact n1) (by rw [z0, Nat.zero_add]; exact n2) (fun i hi y hy => hany y (hel i hi y (by rw [z0, Nat.zero_add] at hy; exact hy))) (by omega) (by have : nativeFrameWords "java/lang/System" "arraycopy" 5 + 11 ≤ 100 := (by decide +kernel); omega) d (fun H1 locs1 hP1 hD1 hS1 => ?_)
    refine nx ls _ _ H1 locs1 la hk ?_ hS1 hl
    refine ⟨fun x hx0 => ⟨(hP.1 x hx0).1, ?_⟩, hP.2⟩
    have hx0' : hK h x ≠ 0 := hx0
    by_cases k19 : hK h x = 190
    · have hlt : x < g.1 := rp_low hP k19
      have hnA : ¬ gA g x := Nat.not_le.mpr hlt
      have q1 := hS1.2.1 x (Nat.lt_of_lt_of_le hlt hB) hnA
      have q2 := hS.2.1 x (Nat.lt_of_lt_of_le hlt hB) hnA
      have r := rpC_mv (h' := h) (hP.1 x hx0').2 rfl rfl rfl (q1.trans q2.symm)
      exact ⟨fun z => absurd k19 z, fun _ => r.2 k19⟩
    refine ⟨fun _ => ?_, fun z => absurd z k19⟩
    by_cases ex : x = b
    · subst ex
      have hlen : pb < (hp_ws g.2.2.1 h H.size).length := (List.getElem?_eq_some_iff.mp eb).1
      have h5 := hP1 pb (x, .inl (g.2.2.1 3, hN h x, .inr (.inr (.inr (.inr (va_cpy (hR h kd a) (hR h kd x) (0 : Int32).toNatClampNeg (0 : Int32).toNatClampNeg n.toNatClampNeg)))))) (by rw [List.getElem?_set_self hlen])
      have e6 : hp_ent g.2.2.1 (hcopy h kd x (fun i => if i < n.toNatClampNeg then hR h kd a i else hR h kd x i)) x = .inl (g.2.2.1 3, hN h x, .inr (.inr (.inr (.inr (va_cpy (hR h kd a) (hR h kd x) (0 : Int32).toNatClampNeg (0 : Int32).toNatClampNeg n.toNatClampNeg))))) := by
        unfold hp_ent
        rw [hK_copy, kb, hkd]
        dsimp only
        rw [hka, hp_ar3 _ x (Or.inl hka), hN_copy]
        congr 8
        funext i
        rw [hR_copy, if_pos ⟨rfl, rfl⟩, z0]
        unfold va_cpy
        simp
      rw [e6]; exact h5
    · have e6 : hp_ent g.2.2.1 (hcopy h kd b (fun i => if i < n.toNatClampNeg then hR h kd a i else hR h kd b i)) x = hp_ent g.2.2.1 h x := hp_ent_ne g.2.2.1 h _ x rfl rfl (fun _ _ => rfl) (fun f i => by rw [hR_copy, if_neg (fun z => ex z.2)])
      rw [e6]
      obtain ⟨px, ex1⟩ := hp_ws_in (cy := g.2.2.1) (rp_lt hP hx0') hx0' k19
      have hne : px ≠ pb := fun q => by rw [q, eb] at ex1; exact ex (Option.some.inj (congrArg (Option.map Prod.fst) ex1)).symm
      exact hP1 px (x, hp_ent g.2.2.1 h x) (by rw [List.getElem?_set_ne (Ne.symm hne)]; exact ex1)
  · exact hk.elim
def i_objinit (k : KT) : KT := fun ls st h => match st with
  | .ref _ :: st' => st'.length ≤ 4 ∧ k ls st' h
  | _ => False
theorem s_objinit (hz : Cx z cc nL own nm lv mc ms) {ix : Nat} (hw1 : Cond.methodLink own ix objectInit ∈ WS0) (hw2 : Cond.instanceMethod objectInit ∈ WS0) (hw3 : Cond.code objectInit ⟨#[0xb1]⟩ 1 none ∈ WS0) (h1 : Nat.ble 1 lv = true) (d : decode cc pc = .ok (.invokespecial ix, 3)) (n : Go z cells slots (pc + 3) k) : Go z cells slots pc (i_objinit k) := by
  obtain ⟨p, l, e, R, s, m, args, below, meth, c, Q, g⟩ := z
  obtain ⟨hx, hb, hml, hown, hts, hlk, hnm, hst, hRm, hB, hV⟩ := hz
  intro ls st h H locs la hk hP hS hl
  unfold i_objinit at hk
  split at hk
  · next a st' =>
    have h1' := Nat.le_of_ble_eq_true h1
    have h2 := cat_sum st'
    have h3 := lv_room (m := m) (pc := pc) (ls := la) (rest := .ref a :: st') (st := st') (by omega)
    refine W.objInit hx hb hown (hts _ hw1) (hts _ hw2) (hts _ hw3) rfl hl.1 rfl d (by omega) ?_ (n ls _ h H locs la hk.2 hP hS hl)
    have h4 := hRm.2.1
    omega
  · exact hk.elim
end SH2
