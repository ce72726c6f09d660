theorem keeps_pw {h : hp_T} {σ : sg_T} {p a : Nat} (k : PgV h σ p a) (hW : WF σ) (hp : p < 8) (l : Int32) : ∀ (L : List Nat) (s : Int32), L.Nodup → (∀ j, j ∈ L → j < pN σ p) → (∀ i, i < 32 → (bt s i = true ↔ i ∈ L)) → (keepsA (ahdH h a l) L s ↔ L.Pairwise (fun x y => ¬ ahM σ p y x l))
  | [], _, _, _, _ => ⟨fun _ => List.Pairwise.nil, fun _ => trivial⟩
  | x :: L, s, hn, hL, hs => by
    have w8 := (hW.2.1 p hp).1.2
    obtain ⟨hx, hn2⟩ := List.nodup_cons.mp hn
    have xp := hL x (List.mem_cons_self ..)
    have ih := keeps_pw k hW hp l L (s &&& (1 <<< (nI x &&& 31) ^^^ -1)) hn2 (fun j hj => hL j (List.mem_cons_of_mem _ hj)) (fun i hi => by
      rw [b_andn _ _ hi, b_bit (by omega) hi, Bool.and_eq_true, hs i hi, List.mem_cons]
      simp only [Bool.not_eq_true', decide_eq_false_iff_not]
      constructor
      · rintro ⟨z | z, y⟩
        · exact absurd z y
        · exact z
      · exact fun z => ⟨Or.inr z, fun e => hx (e ▸ z)⟩)
    have ha : ahdH h a l (nI x) s ↔ ∃ y, y ∈ L ∧ ahM σ p y x l := by
      unfold ahdH
      rw [k.1.2.1, cl_nI (by omega)]
      constructor
      · rintro ⟨-, -, i, hi, hb, hA⟩
        have q := (ahd_M k hW hp hi xp l).mp hA
        rcases List.mem_cons.mp ((hs i (by omega)).mp ((inS_bt (by omega)).mp hb)) with e | e
        · exact absurd e q.1
        · exact ⟨i, e, q⟩
      · rintro ⟨y, hy, q⟩
        have yp := hL y (List.mem_cons_of_mem _ hy)
        exact ⟨nI_pos (by omega), (ltI (by omega) (by omega)).mpr xp, y, yp, (inS_bt (by omega)).mpr ((hs y (by omega)).mpr (List.mem_cons_of_mem _ hy)), (ahd_M k hW hp yp xp l).mpr q⟩
    rw [keepsA, ih, ha, List.pairwise_cons]
    exact ⟨fun z => ⟨fun y hy q => z.1 ⟨y, hy, q⟩, z.2⟩, fun z => ⟨fun ⟨y, hy, q⟩ => z.1 y hy q, z.2⟩⟩
theorem one_pw {σ : sg_T} {p : Nat} {l : Int32} {L : List Nat} : oneJ σ p l L L.length ↔ L.Pairwise (fun x y => ¬ ahM σ p y x l) := by
  rw [List.pairwise_iff_getElem]
  unfold oneJ
  have e : ∀ i (h : i < L.length), L.getD i 0 = L[i] := fun i h => by rw [List.getD_eq_getElem?_getD, List.getElem?_eq_getElem h]; rfl
  constructor
  · intro z i j hi hj hij
    have := z i j hi hij hj
    rw [e i hi, e j hj] at this
    exact this
  · intro z i j hi hij hj
    rw [e i hi, e j hj]
    exact z i j hi hj hij
theorem keeps_one {h : hp_T} {σ : sg_T} {p a : Nat} (k : PgV h σ p a) (hW : WF σ) (hp : p < 8) (l : Int32) : keepsA (ahdH h a l) (rdS σ p l).1 (nI (2 ^ pnN h a - 1)) ↔ oneM σ p l := by
  obtain ⟨q1, q2, q3⟩ := rdS_prm hW hp l
  have w8 := (hW.2.1 p hp).1.2
  rw [k.1.2.1, keeps_pw k hW hp l _ _ q1 (fun j hj => (q3 j).mp hj) (fun i hi => ?_)]
  · exact one_pw.symm
  · rw [q3]
    constructor
    · exact fun z => all_bt _ (by omega) i hi z
    · exact fun z => (all_in _ (by omega) i (by omega)).mpr z
def TC_X8_isOne : PT := fun av h P X => match av with
  | [.ref c, .int v, .int l] => ∃ σ, (RC h c σ ∧ WF σ) ∧ l &&& 1 = l ∧ (¬ pgM σ v → (∀ h', CE h c σ h' → X "java/lang/IndexOutOfBoundsException" h')) ∧ (∀ p, p < sN σ → v = nI p → ∀ h', CE h c σ h' → P (some (.int (bI (oneM σ p l)))) h')
  | _ => False
theorem tcx_X8_isOne (c : Nat) (v : Int32) (l : Int32) (h : hp_T) (P : Option Value → hp_T → Prop) (X : String → hp_T → Prop) : TC_X8_isOne [.ref c, .int v, .int l] h P X = (∃ σ, (RC h c σ ∧ WF σ) ∧ l &&& 1 = l ∧ (¬ pgM σ v → (∀ h', CE h c σ h' → X "java/lang/IndexOutOfBoundsException" h')) ∧ (∀ p, p < sN σ → v = nI p → ∀ h', CE h c σ h' → P (some (.int (bI (oneM σ p l)))) h')) := rfl
theorem cc_X8_isOne : CT yX8_isOne cX8_isOne 3 (some .boolean) 15 3 19 TC_X8_isOne := by
  intro L hst G av h P X hT
  refine ct_X8_isOne L hst G av h P X ?_
  unfold TC_X8_isOne at hT
  split at hT
  · rename_i c v l
    show T_X8_isOne [.ref c, .int v, .int l] h P X
    rw [tx_X8_isOne]
    obtain ⟨σ, ⟨hX, hW⟩, hl, h1, h2⟩ := hT
    have hN := hW.1.1.2
    have kc := hX.cp hW
    have pg : isPg h c v → ∃ p, p < sN σ ∧ v = nI p ∧ v.toNatClampNeg = p ∧ PgV h σ p (cg h c p) := fun e => by
      obtain ⟨p, hp, rfl⟩ := (pgM_iff hW).mp ((hX.pgI hW).mp e)
      exact ⟨p, hp, rfl, cl_nI (by omega), hX.view hW hp⟩
    have np : ¬ isPg h c v → ¬ pgM σ v := fun e z => e ((hX.pgI hW).mpr z)
    refine ⟨⟨kc, hl⟩, fun e h' hE => ?_, fun e => h1 (np e) h (CE.rfl hX)⟩
    obtain ⟨p, hp, ev, cl, k⟩ := pg e
    have X2 : RC h' c σ := hX.cl (Cl.of_ext hE)
    have kv := X2.view hW hp
    rw [hX.cg_ext hE p] at kv
    rw [cl, k.rd, bI_c (keeps_one kv hW (by omega) l)]
    exact h2 p hp ev h' (CE.ext hX hE)
  · exact hT.elim
