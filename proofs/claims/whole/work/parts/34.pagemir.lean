/-- one cell as it was -/
def sameAt (h h' : hp_T) (b : Nat) : Prop := hK h' b = hK h b ∧ hN h' b = hN h b ∧ ∀ g i, hI h' g b i = hI h g b i ∧ hR h' g b i = hR h g b i
def okK (k : Nat) : Bool := k == 2 || k == 3 || k == 4 || k == 5 || k == 6 || k == 9 || k == 170 || k == 152
/-- pages, panels, faces, balloons, tellings as they were -/
def Exo (h h' : hp_T) : Prop := ∀ b, okK (hK h b) = true → sameAt h h' b
theorem Ext.o {h h' : hp_T} (e : Ext h h') : Exo h h' := fun b hb => e.1 b (fun z => by rw [z] at hb; cases hb)
theorem sameAt.dR {h h' : hp_T} {b : Nat} (e : sameAt h h' b) (f : Nat) : dR h' f b = dR h f b := congrArg (fun o : Option Nat => o.getD 0) (e.2.2 f 0).2
theorem Exo.K {h h' : hp_T} (a : Exo h h') {b kd : Nat} (hb : hK h b = kd) (h0 : okK kd = true) : hK h' b = kd := (a b (by rw [hb]; exact h0)).1.trans hb
theorem bx4.exo {h h' : hp_T} (a : Exo h h') {b : Nat} {x y w hh : Int32} (k : bx4 h b x y w hh) : bx4 h' b x y w hh := by
  obtain ⟨k1, k2, k3, k4, k5⟩ := k
  obtain ⟨e1, e2, e3⟩ := a b (by rw [k1]; rfl)
  exact ⟨e1.trans k1, ((e3 _ _).1).trans k2, ((e3 _ _).1).trans k3, ((e3 _ _).1).trans k4, ((e3 _ _).1).trans k5⟩
theorem fcOK.exo {h h' : hp_T} (a : Exo h h') {c : Nat} (k : fcOK h c) : fcOK h' c ∧ dR h' 256 c = dR h 256 c := by
  obtain ⟨k1, k2, k3, k4⟩ := k
  have s := a c (by rw [k1]; rfl)
  have ed := s.dR 256
  obtain ⟨e1, e2, e3⟩ := s
  refine ⟨⟨e1.trans k1, ?_, ?_, ?_⟩, ed⟩
  · rw [(e3 _ _).2, ed]; exact k2
  · rw [ed]; exact a.K k3 rfl
  · rw [(e3 _ _).1]; exact k4
theorem fcMir.exo {h h' h'' : hp_T} (a : Exo h' h'') {c c' : Nat} (k : fcMir h h' c c') : fcMir h h'' c c' := by
  obtain ⟨k1, k2, k3, k4⟩ := k
  obtain ⟨f1, f2⟩ := k1.exo a
  obtain ⟨e1, e2, e3⟩ := a c' (by rw [k1.1]; rfl)
  exact ⟨f1, ((e3 _ _).1).trans k2, ((e3 _ _).1).trans k3, by rw [f2]; exact k4.exo a⟩
theorem pnOK.exo {h h' : hp_T} (e : Exo h h') {q : Nat} (k : pnOK h q) : pnOK h' q ∧ dR h' 384 q = dR h 384 q ∧ dR h' 385 q = dR h 385 q ∧ ∀ f, pnFO h' q f = pnFO h q f := by
  obtain ⟨⟨p1, p2, p3, p4⟩, ⟨p5, p6⟩, p7⟩ := k
  have s := e q (by rw [p1]; rfl)
  have ed5 := s.dR 385
  have ed4 := s.dR 384
  obtain ⟨e1, e2, e3⟩ := s
  obtain ⟨g1, g2, g3⟩ := e (dR h 385 q) (by rw [p3]; rfl)
  have efo : ∀ f, pnFO h' q f = pnFO h q f := fun f => by unfold pnFO; rw [ed5, (g3 _ _).2]
  refine ⟨⟨⟨e1.trans p1, by rw [ed5, (e3 _ _).2]; exact p2, by rw [ed5]; exact g1.trans p3, by rw [ed5]; exact g2.trans p4⟩, ⟨by rw [ed4, (e3 _ _).2]; exact p5, by rw [ed4]; exact e.K p6 rfl⟩, fun f hf c hc => ?_⟩, ed4, ed5, efo⟩
  rw [efo] at hc; exact ((p7 f hf c hc).exo e).1
theorem blOK.exo {h h' : hp_T} (e : Exo h h') {q : Nat} (k : blOK h q) : blOK h' q ∧ dR h' 131 q = dR h 131 q := by
  obtain ⟨k1, k2, k3⟩ := k
  have s := e q (by rw [k1]; rfl)
  have ed := s.dR 131
  exact ⟨⟨e.K k1 rfl, by rw [ed, (s.2.2 _ _).2]; exact k2, by rw [ed]; exact e.K k3 rfl⟩, ed⟩
theorem pnMir.exo {h h' h'' : hp_T} {a q n : Nat} (e : Exo h' h'') (k : pnMir h h' a q n) : pnMir h h'' a q n := by
  obtain ⟨k1, k2, k3, k4, k5, k6⟩ := k
  obtain ⟨z1, ed4, ed5, efo⟩ := k1.exo e
  refine ⟨z1, k2, by rw [ed5]; exact k3, by rw [ed4]; exact k4.exo e, fun f hf => ?_, fun f hf => by rw [efo]; exact k6 f hf⟩
  rw [efo]
  exact ⟨(k5 f hf).1, fun c hc => (((k5 f hf).2 c hc).elim (fun c' z => ⟨c', z.1, z.2.exo e⟩))⟩
/-- seen from an older heap -/
theorem pnMir.old {h0 h h' : hp_T} {a q : Nat} (e : Ext h0 h) (ka : pnOK h0 a) (k : pnMir h h' a q 12) : pnMir h0 h' a q 12 := by
  obtain ⟨k1, k2, k3, k4, k5, k6⟩ := k
  obtain ⟨z1, ed4, ed5, efo⟩ := ka.ext e
  obtain ⟨g1, g2, g3⟩ := e.1 (dR h0 384 a) (by rw [ka.2.1.2]; decide)
  rw [ed4, (g3 _ _).1, (g3 _ _).1, (g3 _ _).1, (g3 _ _).1] at k4
  refine ⟨k1, e.fresh k2, e.fresh k3, k4, fun f hf => ?_, k6⟩
  have := k5 f hf
  rw [efo] at this
  refine ⟨this.1, fun c hc => ?_⟩
  obtain ⟨c', z, z2⟩ := this.2 c hc
  exact ⟨c', z, fcMir.old e (ka.2.2 f hf c hc) z2⟩
theorem lOK.same {h h' : hp_T} {a : Nat} (k : lOK h a) (e1 : sameAt h h' a) (e2 : sameAt h h' (lda h a)) (ek : ∀ b, hK h b ≠ 0 → hK h' b = hK h b) (ec : ∀ i, hC h' i = hC h i) : lOK h' a ∧ lsz h' a = lsz h a ∧ lda h' a = lda h a ∧ ∀ i, lel h' a i = lel h a i := by
  have d1 := e1.dR (64 * hK h a + 1)
  obtain ⟨a1, a2, a3⟩ := e1
  have ed : lda h' a = lda h a := by unfold lda; rw [a1, d1]
  have es : lsz h' a = lsz h a := by unfold lsz; rw [a1, (a3 _ _).1]
  obtain ⟨b1, b2, b3⟩ := e2
  have ee : ∀ i, lel h' a i = lel h a i := fun i => by unfold lel; rw [ed, a1, (b3 _ _).2]
  obtain ⟨k1, k2, k3, k4, k5, k6⟩ := k
  refine ⟨⟨by rw [a1]; exact k1, by rw [ed, a1, (a3 _ _).2]; exact k2, by rw [es, a1, (a3 _ _).1]; exact k3, by rw [es]; exact k4, ?_, fun i hi => ?_⟩, es, ed, ee⟩
  · rw [ed, es, a1, b1, b2, ec]; exact k5
  · rw [ee, ed, a1, (b3 _ _).2]
    rw [es] at hi
    obtain ⟨z1, z2⟩ := k6 i hi
    refine ⟨z1, ?_⟩
    have : hK h (lel h a i) ≠ 0 := by rcases z2 with c | c | c | c <;> rw [c] <;> decide
    rw [ek _ this]; exact z2
/-- what an add leaves alone -/
theorem LAdd.frame {h h' : hp_T} {a v b : Nat} (k : LAdd h h' a v) (hb : hK h b ≠ 0) (nb : b ≠ a) (nk : hK h b ≠ hK h a + 140) : sameAt h h' b := by
  obtain ⟨k1, k2, k3, k4, k5, k6, k7, k8, k9, -⟩ := k
  have n2 : b ≠ lda h' a := fun z => nk (by rw [← (k1 b hb).1, z]; exact k9)
  exact ⟨(k1 b hb).1, (k1 b hb).2, fun g i => ⟨k4 b hb nb g i, k5 b hb nb n2 g i⟩⟩
theorem LAdd.exo {h h' : hp_T} {a v : Nat} (k : LAdd h h' a v) (ka : isL (hK h a)) : Exo h h' := fun b hb => by
  refine k.frame (fun z => by rw [z] at hb; cases hb) (fun z => ?_) (fun z => ?_)
  · rw [z] at hb; rcases ka with e | e | e | e <;> rw [e] at hb <;> cases hb
  · rw [z] at hb; rcases ka with e | e | e | e <;> rw [e] at hb <;> cases hb
theorem LAdd.ok {h h' : hp_T} {a v : Nat} (k : lOK h a) (n40 : lsz h a < 40) (kv : objK (hK h v)) (z : LAdd h h' a v) : lOK h' a ∧ lsz h' a = lsz h a + 1 ∧ (∀ i, i < lsz h a → lel h' a i = lel h a i) ∧ lel h' a (lsz h a) = v ∧ hK h' a = hK h a := by
  obtain ⟨l1, l2⟩ := k.live
  obtain ⟨z1, z2, z3, z4, z5, z6, z7, z8, z9, z10, z11, z12, z13⟩ := z
  obtain ⟨k1, k2, k3, k4, k5, k6⟩ := k
  have a1 := (z1 a l1).1
  have es : lsz h' a = lsz h a + 1 := by
    show (hI h' (64 * hK h' a + 2) a 0).toNatClampNeg = _
    rw [a1, z6, nI_clamp (by omega)]
  have e1 : ∀ i, i < lsz h a → lel h' a i = lel h a i := fun i hi => by unfold lel; rw [a1, z12 i hi]
  have e2 : lel h' a (lsz h a) = v := by unfold lel; rw [a1, z13]; rfl
  refine ⟨⟨by rw [a1]; exact k1, by rw [a1]; exact z7, by rw [a1, es]; exact z6, by omega, Or.inr ⟨by rw [a1]; exact z9, by omega, by omega, z11⟩, fun i hi => ?_⟩, es, e1, e2, a1⟩
  rw [a1]
  by_cases c : i < lsz h a
  · obtain ⟨y1, y2⟩ := k6 i c
    have : hK h (lel h a i) ≠ 0 := by rcases y2 with c | c | c | c <;> rw [c] <;> decide
    exact ⟨by rw [z12 i c, e1 i c]; exact y1, by rw [e1 i c, (z1 _ this).1]; exact y2⟩
  · have : i = lsz h a := by omega
    subst this
    have : hK h v ≠ 0 := by rcases kv with c | c | c | c <;> rw [c] <;> decide
    exact ⟨by rw [z13, e2], by rw [e2, (z1 _ this).1]; exact kv⟩
/-- a list that came, with its row -/
def nlist (h h' : hp_T) (L n : Nat) : Prop := hK h L = 0 ∧ lOK h' L ∧ lsz h' L = n ∧ (hK h' (lda h' L) = 190 ∨ hK h (lda h' L) = 0)
theorem nlist.ext {h h' h'' : hp_T} {L n : Nat} (k : nlist h h' L n) (e : Ext h' h'') : nlist h h'' L n ∧ ∀ i, lel h'' L i = lel h' L i := by
  obtain ⟨k1, k2, k3, k4⟩ := k
  obtain ⟨m1, m2, m3, m4⟩ := k2.ext e
  refine ⟨⟨k1, m1, m2.trans k3, ?_⟩, m4⟩
  rw [m3, (e.1 _ k2.live.2).1]; exact k4
/-- an add to a list that came -/
theorem nlist.add {h h' h'' : hp_T} {L n v : Nat} (k : nlist h h' L n) (e : Ext h h') (hn : n < 40) (kv : objK (hK h' v)) (z : LAdd h' h'' L v) : nlist h h'' L (n + 1) ∧ Ext h h'' := by
  obtain ⟨k1, k2, k3, k4⟩ := k
  obtain ⟨m1, m2, m3, m4, m5⟩ := z.ok k2 (by omega) kv
  have hf : hK h (lda h'' L) = 0 := by
    rcases z.2.2.2.2.2.2.2.1 with c | c
    · rcases k4 with d | d
      · exfalso
        have e9 := z.2.2.2.2.2.2.2.2.1
        rw [c, (z.1 _ k2.live.2).1, d] at e9
        rcases k2.1 with y | y | y | y <;> omega
      · rw [c]; exact d
    · exact e.fresh c
  refine ⟨⟨k1, m1, by omega, Or.inr hf⟩, fun b hb => ?_, fun i => (z.2.1 i).trans (e.2 i)⟩
  obtain ⟨a1, a2, a3⟩ := e.1 b hb
  have hb' : hK h' b ≠ 0 := by rw [a1]; exact hb
  have nb : b ≠ L := fun y => hb (by rw [y]; exact k1)
  have nd : b ≠ lda h'' L := fun y => hb (by rw [y]; exact hf)
  exact ⟨(z.1 b hb').1.trans a1, (z.1 b hb').2.trans a2, fun g i => ⟨(z.2.2.2.1 b hb' nb g i).trans (a3 g i).1, (z.2.2.2.2.1 b hb' nb nd g i).trans (a3 g i).2⟩⟩
/-- another list at an add -/
theorem nlist.other {h h' h'' : hp_T} {L M n v : Nat} (k : nlist h h' M n) (hk : hK h' M ≠ hK h' L) (kl : isL (hK h' L)) (z : LAdd h' h'' L v) : nlist h h'' M n ∧ (∀ i, lel h'' M i = lel h' M i) := by
  obtain ⟨k1, k2, k3, k4⟩ := k
  obtain ⟨l1, l2⟩ := k2.live
  have s1 : sameAt h' h'' M := z.frame l1 (fun y => hk (by rw [y])) (by rcases k2.1 with a | a | a | a <;> rcases kl with b | b | b | b <;> omega)
  have s2 : sameAt h' h'' (lda h' M) := by
    rcases k2.2.2.2.2.1 with ⟨-, -, c, -⟩ | ⟨c, -⟩
    · exact z.frame l2 (fun y => by rw [y] at c; rcases kl with b | b | b | b <;> omega) (by rcases kl with b | b | b | b <;> omega)
    · exact z.frame l2 (fun y => by rw [y] at c; rcases k2.1 with a | a | a | a <;> rcases kl with b | b | b | b <;> omega) (by omega)
  obtain ⟨m1, m2, m3, m4⟩ := k2.same s1 s2 (fun b hb => (z.1 b hb).1) z.2.1
  exact ⟨⟨k1, m1, m2.trans k3, by rw [m3, s2.1]; exact k4⟩, m4⟩
