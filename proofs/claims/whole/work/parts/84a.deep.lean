def i_callI8 (n : Nat) (T : PT) (X : String → hp_T → Prop) (k : KT) : KT := fun ls st h => match popN (n + 1) [] st with
  | some (.ref b :: As, rest) => (rest.map fun v => v.category).sum ≤ 8 ∧ T (.ref b :: As) h (fun v h' => k ls (pushO v rest) h') X
  | _ => False
theorem ap_callI8_4 (b : Nat) (T : PT) (X : String → hp_T → Prop) (v1 v2 v3 v4 : Value) (k : KT) (ls : List (Option Value)) (st : List Value) (h : hp_T) : i_callI8 4 T X k ls (v4 :: v3 :: v2 :: v1 :: .ref b :: st) h = ((st.map fun v => v.category).sum ≤ 8 ∧ T [.ref b, v1, v2, v3, v4] h (fun v h2 => k ls (pushO v st) h2) X) := rfl
section CALL8
variable {z : zT} {cc cc' : ByteArray} {nL lv mc ms cells slots pc nL' lv' mc' ms' n ix : Nat} {own nm : String} {k : KT} {y : MethodName} {rt' : Option FieldType} {T : PT} {X : String → hp_T → Prop}
theorem s_callI8 (hz : Cx z cc nL own nm lv mc ms) (hC : CT y cc' nL' none lv' mc' ms' T) (hca : CaOK own ix y cc' nL' none n) (hw1 : Cond.instanceMethod y ∈ WS0) (hy1 : y.name = "<init>") (hlv : Nat.ble (lv' + 1) lv = true) (hnl : Nat.ble nL' 40 = true) (hcc : Nat.ble (cells + mc') mc = true) (hss : Nat.ble (slots + ms') ms = true) (o : OutOK z X (cells + mc') (slots + ms') pc) (d : decode cc pc = .ok (.invokespecial ix, 3)) (nx : Go z (cells + mc') (slots + ms') (pc + 3) k) : Go z cells slots pc (i_callI8 n T X k) := by
  obtain ⟨p, l, e, R, s, m, args, below, meth, c, Q, g⟩ := z
  obtain ⟨hx, hb, hml, hown, hts, hlk, hnm, hst, hRm, hB, hV⟩ := hz
  intro ls st h H locs la hk hP hS hl
  have g1 := Nat.le_of_ble_eq_true hlv
  have g2 := Nat.le_of_ble_eq_true hnl
  have g3 := Nat.le_of_ble_eq_true hcc
  have g4 := Nat.le_of_ble_eq_true hss
  unfold i_callI8 at hk
  split at hk
  · next b As rest e1 =>
    obtain ⟨hr4, hT⟩ := hk
    obtain ⟨A1, a1, a2, a3⟩ := popN_spec _ _ _ _ _ e1
    rw [List.append_nil] at a1
    subst a1
    have hM := hC l hst g _ h _ X hT
    have hlen : As.length = n := by simpa using a2
    exact run_go nx o hP hS hl (vx_runI (cells := cells) (slots := slots) (g := F0 m pc la st) (b := b) (As := As) (rest := rest) (locs := locs) ⟨hx, hb, hml, hown, hts⟩ hM ⟨callB_ws hts hca ⟨by omega, by omega⟩, hy1, hts _ hw1⟩ ⟨va_Pc_blind, pre_rp _ hB hV hP hS⟩ rfl hlen (hl.1.trans hml) (by rw [a3]; simp) (lv_room (by omega)) d ⟨by omega, by omega⟩)
  · exact hk.elim
end CALL8
