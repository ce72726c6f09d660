/-- a page as the state has it -/
def PgV (h : hp_T) (σ : sg_T) (p a : Nat) : Prop := (pgOK h a ∧ pnN h a = pN σ p ∧ blN h a = bN σ p ∧ hI h 322 a 0 = σ 1 p ∧ hI h 323 a 0 = σ 4 p ∧ prR h σ p (hR h 324 a 0)) ∧ (∀ j, j < pN σ p → pnR h σ (8 * p + j) (pn h a j)) ∧ ∀ j, j < bN σ p → blR h σ (20 * p + j) (bl h a j)
theorem RC.view {h : hp_T} {c : Nat} {σ : sg_T} (x : RC h c σ) (hW : WF σ) {p : Nat} (hp : p < sN σ) : PgV h σ p (cg h c p) := by
  obtain ⟨o, ho⟩ := x.2.2.1.2.2
  have y := ho p hp
  have k := y.ok (hW.2.1 p (by have := hW.1.1.2; omega))
  obtain ⟨⟨⟨x1, x2⟩, x3, x4, x5⟩, ⟨x6, x7, x8⟩, x9, x10, x11⟩ := y
  exact ⟨⟨k, x7.1.2.2.1, x10.1.2.2.1, x3, x4, x5⟩, x7.2, x10.2⟩
theorem RC.n {h : hp_T} {c : Nat} {σ : sg_T} (x : RC h c σ) : cgN h c = sN σ := x.2.2.1.2.1.2.2.1
theorem RC.pgI {h : hp_T} {c : Nat} {σ : sg_T} (x : RC h c σ) (hW : WF σ) {v : Int32} : isPg h c v ↔ pgM σ v := by
  unfold isPg
  rw [x.n, pgM_iff hW]
  have := hW.1.1.2
  constructor
  · rintro ⟨a, b⟩
    obtain ⟨e1, e2⟩ := nI_lt8 a b (by omega)
    exact ⟨_, e1, e2⟩
  · rintro ⟨p, a, rfl⟩
    exact ⟨nI_pos (by omega), (ltI (by omega) (by omega)).mpr a⟩
theorem PgV.box {h : hp_T} {σ : sg_T} {p a : Nat} (k : PgV h σ p a) {j : Nat} (hj : j < pN σ p) : bx4 h (pb h a j) (σ 9 (8 * p + j)) (σ 10 (8 * p + j)) (σ 11 (8 * p + j)) (σ 12 (8 * p + j)) := (k.2.1 j hj).2.1.2
theorem PgV.rd {h : hp_T} {σ : sg_T} {p a : Nat} (k : PgV h σ p a) (l : Int32) : rdG h a l = rdS σ p l := by
  have e1 : pBeg h a = sB σ p := by
    funext c j
    unfold pBeg sB
    rw [k.1.2.1]
    by_cases hj : j < pN σ p
    · obtain ⟨b1, b2, b3, b4, b5⟩ := k.box hj
      rw [if_pos hj, if_pos hj, b2, b3]
    · rw [if_neg hj, if_neg hj]
  have e2 : pEnd h a = sE σ p := by
    funext c j
    unfold pEnd sE
    rw [k.1.2.1]
    by_cases hj : j < pN σ p
    · obtain ⟨b1, b2, b3, b4, b5⟩ := k.box hj
      rw [if_pos hj, if_pos hj, b2, b3, b4, b5]
    · rw [if_neg hj, if_neg hj]
  unfold rdG rdS
  rw [e1, e2, k.1.2.1]
/-- the end of a call of the house -/
def CE (h : hp_T) (c : Nat) (σ : sg_T) (h' : hp_T) : Prop := RC h' c σ ∧ MFr h h'
theorem CE.rfl {h : hp_T} {c : Nat} {σ : sg_T} (x : RC h c σ) : CE h c σ h := ⟨x, MFr.rfl⟩
theorem CE.ext {h h' : hp_T} {c : Nat} {σ : sg_T} (x : RC h c σ) (e : Ext h h') : CE h c σ h' := ⟨x.cl (Cl.of_ext e), MFr.of_ext e⟩
theorem MFr.sI {h : hp_T} {f a j : Nat} {v : Int32} (k : mK (hK h a) = false) : MFr h (hsI h f a j v) := fun b hb => sameAt.sI (fun e => by rw [e, k] at hb; cases hb)
theorem MFr.sR {h : hp_T} {f a j : Nat} {v : Option Nat} (k : mK (hK h a) = false) : MFr h (hsR h f a j v) := fun b hb => sameAt.sR (fun e => by rw [e, k] at hb; cases hb)
theorem pgM_nI {σ : sg_T} (hW : WF σ) {p : Nat} (hp : p < sN σ) : pgM σ (nI p) := (pgM_iff hW).mpr ⟨p, hp, rfl⟩
theorem sSc_su {σ : sg_T} {k i : Nat} {v : Int32} (h : ¬ k = 0 ∧ ¬ k = 13 ∧ ¬ k = 26 ∧ ¬ (27 ≤ k ∧ k ≤ 33)) : sSc σ (su σ k i v) := by
  refine ⟨?_, ?_, ?_, ?_, ?_, fun k' a b j => ?_⟩ <;> rw [su_at, if_neg (by omega)]
theorem sSc.trans {σ σ' σ'' : sg_T} (a : sSc σ σ') (b : sSc σ' σ'') : sSc σ σ'' := ⟨b.1.trans a.1, b.2.1.trans a.2.1, b.2.2.1.trans a.2.2.1, b.2.2.2.1.trans a.2.2.2.1, b.2.2.2.2.1.trans a.2.2.2.2.1, fun k x y j => (b.2.2.2.2.2 k x y j).trans (a.2.2.2.2.2 k x y j)⟩
def TC_X8_stage : PT := fun av h P X => match av with
  | [.ref c, .int v] => ∃ σ, (RC h c σ ∧ WF σ) ∧ (¬ pgM σ v → (∀ h', CE h c σ h' → X "java/lang/IndexOutOfBoundsException" h')) ∧ (∀ p, p < sN σ → v = nI p → P (some (.int (σ 4 p))) h)
  | _ => False
theorem tcx_X8_stage (c : Nat) (v : Int32) (h : hp_T) (P : Option Value → hp_T → Prop) (X : String → hp_T → Prop) : TC_X8_stage [.ref c, .int v] h P X = (∃ σ, (RC h c σ ∧ WF σ) ∧ (¬ pgM σ v → (∀ h', CE h c σ h' → X "java/lang/IndexOutOfBoundsException" h')) ∧ (∀ p, p < sN σ → v = nI p → P (some (.int (σ 4 p))) h)) := rfl
theorem cc_X8_stage : CT yX8_stage cX8_stage 2 (some .int) 7 1 6 TC_X8_stage := by
  intro L hst G av h P X hT
  refine ct_X8_stage L hst G av h P X ?_
  unfold TC_X8_stage at hT
  split at hT
  · rename_i c v
    show T_X8_stage [.ref c, .int v] h P X
    rw [tx_X8_stage]
    obtain ⟨σ, ⟨hX, hW⟩, h1, h2⟩ := hT
    have hN := hW.1.1.2
    have kc := hX.cp hW
    have pg : isPg h c v → ∃ p, p < sN σ ∧ v = nI p ∧ v.toNatClampNeg = p ∧ PgV h σ p (cg h c p) := fun e => by
      obtain ⟨p, hp, rfl⟩ := (pgM_iff hW).mp ((hX.pgI hW).mp e)
      exact ⟨p, hp, rfl, cl_nI (by omega), hX.view hW hp⟩
    have np : ¬ isPg h c v → ¬ pgM σ v := fun e z => e ((hX.pgI hW).mpr z)
    refine ⟨kc, fun e => ?_, fun e => h1 (np e) h (CE.rfl hX)⟩
    obtain ⟨p, hp, ev, cl, k⟩ := pg e
    rw [cl, k.1.2.2.2.2.1]
    exact h2 p hp ev
  · exact hT.elim
def TC_X8_turn : PT := fun av h P X => match av with
  | [.ref c, .int v, .int l] => ∃ σ, (RC h c σ ∧ WF σ) ∧ l &&& 1 = l ∧ (¬ pgM σ v → (∀ h', CE h c σ h' → X "java/lang/IndexOutOfBoundsException" h')) ∧ (∀ p, p < sN σ → v = nI p → ¬ σ 5 p = -1 → (∀ h', CE h c σ h' → X "java/lang/IllegalStateException" h')) ∧ (∀ p, p < sN σ → v = nI p → σ 5 p = -1 → ∀ h', CE h c (su σ 1 p l) h' → P (some (.int (σ 1 p))) h')
  | _ => False
theorem tcx_X8_turn (c : Nat) (v : Int32) (l : Int32) (h : hp_T) (P : Option Value → hp_T → Prop) (X : String → hp_T → Prop) : TC_X8_turn [.ref c, .int v, .int l] h P X = (∃ σ, (RC h c σ ∧ WF σ) ∧ l &&& 1 = l ∧ (¬ pgM σ v → (∀ h', CE h c σ h' → X "java/lang/IndexOutOfBoundsException" h')) ∧ (∀ p, p < sN σ → v = nI p → ¬ σ 5 p = -1 → (∀ h', CE h c σ h' → X "java/lang/IllegalStateException" h')) ∧ (∀ p, p < sN σ → v = nI p → σ 5 p = -1 → ∀ h', CE h c (su σ 1 p l) h' → P (some (.int (σ 1 p))) h')) := rfl
theorem cc_X8_turn : CT yX8_turn cX8_turn 5 (some .boolean) 7 2 12 TC_X8_turn := by
  intro L hst G av h P X hT
  refine ct_X8_turn L hst G av h P X ?_
  unfold TC_X8_turn at hT
  split at hT
  · rename_i c v l
    show T_X8_turn [.ref c, .int v, .int l] h P X
    rw [tx_X8_turn]
    obtain ⟨σ, ⟨hX, hW⟩, hl, h1, h2, h3⟩ := hT
    have hN := hW.1.1.2
    have kc := hX.cp hW
    have pg : isPg h c v → ∃ p, p < sN σ ∧ v = nI p ∧ v.toNatClampNeg = p ∧ PgV h σ p (cg h c p) := fun e => by
      obtain ⟨p, hp, rfl⟩ := (pgM_iff hW).mp ((hX.pgI hW).mp e)
      exact ⟨p, hp, rfl, cl_nI (by omega), hX.view hW hp⟩
    have np : ¬ isPg h c v → ¬ pgM σ v := fun e z => e ((hX.pgI hW).mpr z)
    refine ⟨⟨kc, hl⟩, fun e en => ?_, fun e en => ?_, fun e => h1 (np e) h (CE.rfl hX)⟩
    · obtain ⟨p, hp, ev, cl, k⟩ := pg e
      rw [cl] at en ⊢
      have k6 := k.1.2.2.2.2.2
      rw [en] at k6
      rw [k.1.2.2.2.1]
      refine h3 p hp ev k6 _ ⟨hX.cell hp (fun b h0 n => sameAt.sI n) (fun _ _ => rfl) (fun _ => rfl) (sSc_su (by omega)) (fun q hq n => ?_) ⟨⟨?_, ?_⟩, fun k' a b i hi => ?_, fun k' a b i hi g hg => ?_, fun k' a b i hi => ?_⟩ ⟨rfl, rfl⟩ (fun o ho => ⟨?_, ?_, ?_⟩), MFr.sI (by show mK (hK h (cg h c p)) = false; rw [k.1.1.1]; rfl)⟩
      · refine ⟨fun k' a b => ?_, fun k' a b i hi => ?_, fun k' a b i hi g hg => ?_, fun k' a b i hi => ?_⟩ <;> rw [su_at, if_neg (by omega)]
      · rw [su_at, if_neg (by omega)]
      · rw [su_at, if_neg (by omega)]
      · rw [su_at, if_neg (by omega)]
      · rw [su_at, if_neg (by omega)]
      · rw [su_at, if_neg (by omega)]
      · rw [hI_sI, if_pos ⟨rfl, rfl, rfl⟩, su_at, if_pos ⟨rfl, rfl⟩]
      · rw [hI_sI, if_neg (by omega), su_at, if_neg (by omega)]; exact k.1.2.2.2.2.1
      · rw [hR_sI]
        show prR _ _ p (hR h 324 (cg h c p) 0)
        rw [en]
        show su σ 1 p l 5 p = -1
        rw [su_at, if_neg (by omega)]; exact k6
    · obtain ⟨p, hp, ev, cl, k⟩ := pg e
      rw [cl] at en
      have k6 := k.1.2.2.2.2.2
      refine h2 p hp ev (fun z => ?_) h (CE.rfl hX)
      cases hr : hR h 324 (cg h c p) 0 with
      | none => exact en hr
      | some r => rw [hr] at k6; exact k6.1 z
  · exact hT.elim
def TC_X8_doubts : PT := fun av h P X => match av with
  | [.ref c, .int v] => ∃ σ, (RC h c σ ∧ WF σ) ∧ (¬ pgM σ v → (∀ h', CE h c σ h' → X "java/lang/IndexOutOfBoundsException" h')) ∧ (∀ p, p < sN σ → v = nI p → ∀ h', CE h c σ h' → P (some (.int (rdS σ p (σ 1 p)).2)) h')
  | _ => False
theorem tcx_X8_doubts (c : Nat) (v : Int32) (h : hp_T) (P : Option Value → hp_T → Prop) (X : String → hp_T → Prop) : TC_X8_doubts [.ref c, .int v] h P X = (∃ σ, (RC h c σ ∧ WF σ) ∧ (¬ pgM σ v → (∀ h', CE h c σ h' → X "java/lang/IndexOutOfBoundsException" h')) ∧ (∀ p, p < sN σ → v = nI p → ∀ h', CE h c σ h' → P (some (.int (rdS σ p (σ 1 p)).2)) h')) := rfl
theorem cc_X8_doubts : CT yX8_doubts cX8_doubts 3 (some .int) 15 3 19 TC_X8_doubts := by
  intro L hst G av h P X hT
  refine ct_X8_doubts L hst G av h P X ?_
  unfold TC_X8_doubts at hT
  split at hT
  · rename_i c v
    show T_X8_doubts [.ref c, .int v] h P X
    rw [tx_X8_doubts]
    obtain ⟨σ, ⟨hX, hW⟩, h1, h2⟩ := hT
    have hN := hW.1.1.2
    have kc := hX.cp hW
    have pg : isPg h c v → ∃ p, p < sN σ ∧ v = nI p ∧ v.toNatClampNeg = p ∧ PgV h σ p (cg h c p) := fun e => by
      obtain ⟨p, hp, rfl⟩ := (pgM_iff hW).mp ((hX.pgI hW).mp e)
      exact ⟨p, hp, rfl, cl_nI (by omega), hX.view hW hp⟩
    have np : ¬ isPg h c v → ¬ pgM σ v := fun e z => e ((hX.pgI hW).mpr z)
    refine ⟨kc, fun e h' hE => ?_, fun e => h1 (np e) h (CE.rfl hX)⟩
    obtain ⟨p, hp, ev, cl, k⟩ := pg e
    rw [cl, k.rd, k.1.2.2.2.1]
    exact h2 p hp ev h' (CE.ext hX hE)
  · exact hT.elim
def TC_X8_read : PT := fun av h P X => match av with
  | [.ref c, .int v, .int l, .int x] => ∃ σ, (RC h c σ ∧ WF σ) ∧ l &&& 1 = l ∧ (¬ pgM σ v → (∀ h', CE h c σ h' → X "java/lang/IndexOutOfBoundsException" h')) ∧ (∀ p, p < sN σ → v = nI p → (0 ≤ x ∧ x ≤ nI (rdS σ p l).1.length - 1) → ∀ h', CE h c σ h' → P (some (.int (ordI (rdS σ p l).1 x.toNatClampNeg))) h') ∧ (∀ p, p < sN σ → v = nI p → ¬ (0 ≤ x ∧ x ≤ nI (rdS σ p l).1.length - 1) → (∀ h', CE h c σ h' → X "java/lang/IndexOutOfBoundsException" h'))
  | _ => False
theorem tcx_X8_read (c : Nat) (v : Int32) (l : Int32) (x : Int32) (h : hp_T) (P : Option Value → hp_T → Prop) (X : String → hp_T → Prop) : TC_X8_read [.ref c, .int v, .int l, .int x] h P X = (∃ σ, (RC h c σ ∧ WF σ) ∧ l &&& 1 = l ∧ (¬ pgM σ v → (∀ h', CE h c σ h' → X "java/lang/IndexOutOfBoundsException" h')) ∧ (∀ p, p < sN σ → v = nI p → (0 ≤ x ∧ x ≤ nI (rdS σ p l).1.length - 1) → ∀ h', CE h c σ h' → P (some (.int (ordI (rdS σ p l).1 x.toNatClampNeg))) h') ∧ (∀ p, p < sN σ → v = nI p → ¬ (0 ≤ x ∧ x ≤ nI (rdS σ p l).1.length - 1) → (∀ h', CE h c σ h' → X "java/lang/IndexOutOfBoundsException" h'))) := rfl
theorem cc_X8_read : CT yX8_read cX8_read 5 (some .int) 15 3 19 TC_X8_read := by
  intro L hst G av h P X hT
  refine ct_X8_read L hst G av h P X ?_
  unfold TC_X8_read at hT
  split at hT
  · rename_i c v l x
    show T_X8_read [.ref c, .int v, .int l, .int x] h P X
    rw [tx_X8_read]
    obtain ⟨σ, ⟨hX, hW⟩, hl, h1, h2, h3⟩ := hT
    have hN := hW.1.1.2
    have kc := hX.cp hW
    have pg : isPg h c v → ∃ p, p < sN σ ∧ v = nI p ∧ v.toNatClampNeg = p ∧ PgV h σ p (cg h c p) := fun e => by
      obtain ⟨p, hp, rfl⟩ := (pgM_iff hW).mp ((hX.pgI hW).mp e)
      exact ⟨p, hp, rfl, cl_nI (by omega), hX.view hW hp⟩
    have np : ¬ isPg h c v → ¬ pgM σ v := fun e z => e ((hX.pgI hW).mpr z)
    have ln : ∀ p, p < sN σ → ((0 ≤ x ∧ x ≤ nI (rdS σ p l).1.length - 1) ↔ (¬ x < 0 ∧ x < nI (pN σ p))) := fun p hp => by
      have q := (hW.2.1 p (by omega)).1.2
      rw [(rdS_prm hW (by omega) l).2.1, nIiff rfl (by omega)]
      constructor
      · rintro ⟨j, a, rfl⟩
        exact ⟨nI_pos (by omega), (ltI (by omega) (by omega)).mpr a⟩
      · rintro ⟨a, b⟩
        obtain ⟨e1, e2⟩ := nI_lt8 a b (by omega)
        exact ⟨_, e1, e2⟩
    refine ⟨⟨kc, hl⟩, fun e x0 x1 h' hE => ?_, fun e x1 => ?_, fun e => h1 (np e) h (CE.rfl hX)⟩
    · obtain ⟨p, hp, ev, cl, k⟩ := pg e
      rw [cl] at x1 ⊢
      rw [k.1.2.1] at x1
      rw [k.rd]
      exact h2 p hp ev ((ln p hp).mpr ⟨x0, x1⟩) h' (CE.ext hX hE)
    · obtain ⟨p, hp, ev, cl, k⟩ := pg e
      rw [cl, k.1.2.1] at x1
      exact h3 p hp ev (fun z => x1 ((ln p hp).mp z)) h (CE.rfl hX)
  · exact hT.elim
def TC_X8_workers : PT := fun av h P X => match av with
  | [.ref c, .int v] => ∃ σ, (RC h c σ ∧ WF σ) ∧ (1 ≤ v ∧ v ≤ 5 → ∀ h', CE h c (su σ 33 0 v) h' → P (some (.int (σ 33 0))) h') ∧ (¬ (1 ≤ v ∧ v ≤ 5) → (∀ h', CE h c σ h' → X "java/lang/IllegalArgumentException" h'))
  | _ => False
theorem tcx_X8_workers (c : Nat) (v : Int32) (h : hp_T) (P : Option Value → hp_T → Prop) (X : String → hp_T → Prop) : TC_X8_workers [.ref c, .int v] h P X = (∃ σ, (RC h c σ ∧ WF σ) ∧ (1 ≤ v ∧ v ≤ 5 → ∀ h', CE h c (su σ 33 0 v) h' → P (some (.int (σ 33 0))) h') ∧ (¬ (1 ≤ v ∧ v ≤ 5) → (∀ h', CE h c σ h' → X "java/lang/IllegalArgumentException" h'))) := rfl
theorem cc_X8_workers : CT yX8_workers cX8_workers 3 (some .int) 7 1 6 TC_X8_workers := by
  intro L hst G av h P X hT
  refine ct_X8_workers L hst G av h P X ?_
  unfold TC_X8_workers at hT
  split at hT
  · rename_i c v
    show T_X8_workers [.ref c, .int v] h P X
    rw [tx_X8_workers]
    obtain ⟨σ, ⟨hX, hW⟩, h1, h2⟩ := hT
    refine ⟨hX.1.1, fun e => ?_, fun e => h2 e h (CE.rfl hX)⟩
    rw [hX.2.1.2.2]
    exact h1 e _ ⟨hX.num (Or.inr (Or.inr ⟨rfl, rfl⟩)) v, MFr.sI (by rw [hX.1.1]; rfl)⟩
  · exact hT.elim
def TC_X8_figure : PT := fun av h P X => match av with
  | [.ref c] => ∃ σ, (RC h c σ ∧ WF σ) ∧ (sF σ < 12 → ∀ h', CE h c (su σ 13 0 (nI (sF σ + 1))) h' → P (some (.int (nI (sF σ)))) h') ∧ (¬ sF σ < 12 → (∀ h', CE h c σ h' → X "java/lang/IllegalStateException" h'))
  | _ => False
theorem tcx_X8_figure (c : Nat) (h : hp_T) (P : Option Value → hp_T → Prop) (X : String → hp_T → Prop) : TC_X8_figure [.ref c] h P X = (∃ σ, (RC h c σ ∧ WF σ) ∧ (sF σ < 12 → ∀ h', CE h c (su σ 13 0 (nI (sF σ + 1))) h' → P (some (.int (nI (sF σ)))) h') ∧ (¬ sF σ < 12 → (∀ h', CE h c σ h' → X "java/lang/IllegalStateException" h'))) := rfl
theorem cc_X8_figure : CT yX8_figure cX8_figure 1 (some .int) 6 1 6 TC_X8_figure := by
  intro L hst G av h P X hT
  refine ct_X8_figure L hst G av h P X ?_
  unfold TC_X8_figure at hT
  split at hT
  · rename_i c
    show T_X8_figure [.ref c] h P X
    rw [tx_X8_figure]
    obtain ⟨σ, ⟨hX, hW⟩, h1, h2⟩ := hT
    obtain ⟨w1, w2⟩ := hW.1.2.1
    have e0 := hX.2.1.1
    have lt : (hI h 642 c 0 < 12) ↔ sF σ < 12 := by rw [e0, w1]; exact ltI (a := sF σ) (b := 12) (by omega) (by omega)
    refine ⟨hX.1.1, fun e => ?_, fun e => h2 (fun z => e (lt.mpr z)) h (CE.rfl hX)⟩
    rw [Int32.add_sub_cancel, e0, w1, nI_1]
    exact h1 (lt.mp e) _ ⟨hX.num (Or.inl ⟨rfl, rfl⟩) _, MFr.sI (by rw [hX.1.1]; rfl)⟩
  · exact hT.elim
def TC_X8_printed : PT := fun av h P X => match av with
  | [.ref c, .int v, .int x] => ∃ σ, (RC h c σ ∧ WF σ) ∧ (¬ pgM σ v → (∀ h', CE h c σ h' → X "java/lang/IndexOutOfBoundsException" h')) ∧ (∀ p, p < sN σ → v = nI p → 0 ≤ x ∧ x ≤ 10 → P (some (.int (prM σ p x))) h) ∧ (∀ p, p < sN σ → v = nI p → ¬ (0 ≤ x ∧ x ≤ 10) → (∀ h', CE h c σ h' → X "java/lang/IllegalArgumentException" h'))
  | _ => False
theorem tcx_X8_printed (c : Nat) (v : Int32) (x : Int32) (h : hp_T) (P : Option Value → hp_T → Prop) (X : String → hp_T → Prop) : TC_X8_printed [.ref c, .int v, .int x] h P X = (∃ σ, (RC h c σ ∧ WF σ) ∧ (¬ pgM σ v → (∀ h', CE h c σ h' → X "java/lang/IndexOutOfBoundsException" h')) ∧ (∀ p, p < sN σ → v = nI p → 0 ≤ x ∧ x ≤ 10 → P (some (.int (prM σ p x))) h) ∧ (∀ p, p < sN σ → v = nI p → ¬ (0 ≤ x ∧ x ≤ 10) → (∀ h', CE h c σ h' → X "java/lang/IllegalArgumentException" h'))) := rfl
theorem cc_X8_printed : CT yX8_printed cX8_printed 4 (some .int) 7 2 12 TC_X8_printed := by
  intro L hst G av h P X hT
  refine ct_X8_printed L hst G av h P X ?_
  unfold TC_X8_printed at hT
  split at hT
  · rename_i c v x
    show T_X8_printed [.ref c, .int v, .int x] h P X
    rw [tx_X8_printed]
    obtain ⟨σ, ⟨hX, hW⟩, h1, h2, h3⟩ := hT
    have hN := hW.1.1.2
    have kc := hX.cp hW
    have pg : isPg h c v → ∃ p, p < sN σ ∧ v = nI p ∧ v.toNatClampNeg = p ∧ PgV h σ p (cg h c p) := fun e => by
      obtain ⟨p, hp, rfl⟩ := (pgM_iff hW).mp ((hX.pgI hW).mp e)
      exact ⟨p, hp, rfl, cl_nI (by omega), hX.view hW hp⟩
    have np : ¬ isPg h c v → ¬ pgM σ v := fun e z => e ((hX.pgI hW).mpr z)
    refine ⟨kc, fun e ex => ?_, fun e ex => ?_, fun e => h1 (np e) h (CE.rfl hX)⟩
    · obtain ⟨p, hp, ev, cl, k⟩ := pg e
      have y := h2 p hp ev ex
      rw [cl]
      have k6 := k.1.2.2.2.2.2
      have q : prA h (cg h c p) x = prM σ p x := by
        unfold prA prM
        cases hr : hR h 324 (cg h c p) 0 with
        | none =>
          rw [hr] at k6
          have k7 : σ 5 p = -1 := k6
          rw [if_pos k7]
        | some r =>
          rw [hr] at k6
          obtain ⟨z1, z2, z3, z4, z5, z6, z7⟩ := k6
          rw [if_neg z1]
          obtain ⟨n, hn, rfl⟩ := nI_of2 (n := 10) (by decide) (fun z => by have := ex.1; grind) ex.2
          dsimp only
          rw [cl_nI (by omega)]
          have q0 : nI n = 0 ↔ n = 0 := nI_eq (a := n) (b := 0) (by omega) (by omega)
          have q1 : nI n = 1 ↔ n = 1 := nI_eq (a := n) (b := 1) (by omega) (by omega)
          have q2 : nI n = 2 ↔ n = 2 := nI_eq (a := n) (b := 2) (by omega) (by omega)
          by_cases a0 : n = 0
          · rw [if_pos (q0.mpr a0), a0]; exact z4
          · rw [if_neg (fun z => a0 (q0.mp z))]
            by_cases a1 : n = 1
            · rw [if_pos (q1.mpr a1), a1]; exact z5
            · rw [if_neg (fun z => a1 (q1.mp z))]
              by_cases a2 : n = 2
              · rw [if_pos (q2.mpr a2), a2]; exact z6
              · rw [if_neg (fun z => a2 (q2.mp z)), ← z7 (n - 3) (by omega)]
                congr 1; omega
      rw [q]; exact y
    · obtain ⟨p, hp, ev, cl, k⟩ := pg e
      exact h3 p hp ev ex h (CE.rfl hX)
  · exact hT.elim
