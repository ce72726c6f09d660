/-- cells that came, nothing that changed -/
def Ext (h h' : hp_T) : Prop := (∀ b, hK h b ≠ 0 → hK h' b = hK h b ∧ hN h' b = hN h b ∧ ∀ g i, hI h' g b i = hI h g b i ∧ hR h' g b i = hR h g b i) ∧ ∀ i, hC h' i = hC h i
theorem Ext.rfl {h : hp_T} : Ext h h := ⟨fun _ _ => ⟨Eq.refl _, Eq.refl _, fun _ _ => ⟨Eq.refl _, Eq.refl _⟩⟩, fun _ => Eq.refl _⟩
theorem Ext.trans {h h' h'' : hp_T} (a : Ext h h') (b : Ext h' h'') : Ext h h'' := by
  refine ⟨fun x hx => ?_, fun i => (b.2 i).trans (a.2 i)⟩
  obtain ⟨a1, a2, a3⟩ := a.1 x hx
  obtain ⟨b1, b2, b3⟩ := b.1 x (by rw [a1]; exact hx)
  exact ⟨b1.trans a1, b2.trans a2, fun g i => ⟨(b3 g i).1.trans (a3 g i).1, (b3 g i).2.trans (a3 g i).2⟩⟩
theorem Ext.fresh {h h' : hp_T} (a : Ext h h') {q : Nat} (hq : hK h' q = 0) : hK h q = 0 := by
  rcases Nat.eq_zero_or_pos (hK h q) with e | e
  · exact e
  · have := (a.1 q (by omega)).1
    omega
theorem Ext.ne {h h' : hp_T} (a : Ext h h') {q b : Nat} (hq : hK h' q = 0) (hb : hK h b ≠ 0) : b ≠ q := fun e => hb (by rw [e]; exact a.fresh hq)
theorem Ext.new {h h' : hp_T} (a : Ext h h') {q : Nat} (hq : hK h' q = 0) (kd n : Nat) : Ext h (hnew h' q kd n) := by
  refine ⟨fun x hx => ?_, fun i => a.2 i⟩
  have hne := a.ne hq hx
  simp only [hK_new, hN_new, hI_new, hR_new, hne, if_false]
  exact a.1 x hx
theorem Ext.sI {h h' : hp_T} (a : Ext h h') {q : Nat} (hq : hK h q = 0) (f j : Nat) (v : Int32) : Ext h (hsI h' f q j v) := by
  refine ⟨fun x hx => ?_, fun i => a.2 i⟩
  have hne : ¬ x = q := fun e => hx (by rw [e]; exact hq)
  simp only [hK_sI, hN_sI, hI_sI, hR_sI, hne, false_and, and_false, if_false]
  exact a.1 x hx
theorem Ext.sR {h h' : hp_T} (a : Ext h h') {q : Nat} (hq : hK h q = 0) (f j : Nat) (v : Option Nat) : Ext h (hsR h' f q j v) := by
  refine ⟨fun x hx => ?_, fun i => a.2 i⟩
  have hne : ¬ x = q := fun e => hx (by rw [e]; exact hq)
  simp only [hK_sR, hN_sR, hI_sR, hR_sR, hne, false_and, and_false, if_false]
  exact a.1 x hx
theorem Ext.K {h h' : hp_T} (a : Ext h h') {b kd : Nat} (hb : hK h b = kd) (h0 : kd ≠ 0) : hK h' b = kd := (a.1 b (by rw [hb]; exact h0)).1.trans hb
theorem Ext.box {h h' : hp_T} (a : Ext h h') {q : Nat} (hq : hK h' q = 0) (x y w hh : Int32) : Ext h (hbox h' q x y w hh) := by
  unfold hbox
  exact ((((a.new hq 3 0).sI (a.fresh hq) _ _ _).sI (a.fresh hq) _ _ _).sI (a.fresh hq) _ _ _).sI (a.fresh hq) _ _ _
def bx4 (h : hp_T) (b : Nat) (x y w hh : Int32) : Prop := hK h b = 3 ∧ hI h 192 b 0 = x ∧ hI h 193 b 0 = y ∧ hI h 194 b 0 = w ∧ hI h 195 b 0 = hh
theorem bx4_new (h : hp_T) (q : Nat) (x y w hh : Int32) : bx4 (hbox h q x y w hh) q x y w hh := by
  unfold bx4 hbox
  simp only [hK_sI, hN_sI, hI_sI, hR_sI, hC_sI, hK_sR, hN_sR, hI_sR, hR_sR, hC_sR, hK_new, hN_new, hI_new, hR_new, hC_new, Nat.reduceEqDiff, and_self, false_and, if_true, if_false]
theorem bx4.ext {h h' : hp_T} (a : Ext h h') {b : Nat} {x y w hh : Int32} (k : bx4 h b x y w hh) : bx4 h' b x y w hh := by
  obtain ⟨k1, k2, k3, k4, k5⟩ := k
  obtain ⟨e1, e2, e3⟩ := a.1 b (by rw [k1]; decide)
  exact ⟨e1.trans k1, ((e3 _ _).1).trans k2, ((e3 _ _).1).trans k3, ((e3 _ _).1).trans k4, ((e3 _ _).1).trans k5⟩
/-- a face that is as c, mirrored -/
def fcMir (h h' : hp_T) (c c' : Nat) : Prop := fcOK h' c' ∧ hI h' 257 c' 0 = hI h 257 c 0 ∧ hI h' 258 c' 0 = hI h 258 c 0 ∧ bx4 h' (dR h' 256 c') (60 - (hI h 192 (dR h 256 c) 0 + hI h 194 (dR h 256 c) 0)) (hI h 193 (dR h 256 c) 0) (hI h 194 (dR h 256 c) 0) (hI h 195 (dR h 256 c) 0)
theorem fcOK.ext {h h' : hp_T} (a : Ext h h') {c : Nat} (k : fcOK h c) : fcOK h' c ∧ dR h' 256 c = dR h 256 c := by
  obtain ⟨k1, k2, k3, k4⟩ := k
  obtain ⟨e1, e2, e3⟩ := a.1 c (by rw [k1]; decide)
  have ed : dR h' 256 c = dR h 256 c := by unfold dR; rw [(e3 _ _).2]
  refine ⟨⟨e1.trans k1, ?_, ?_, ?_⟩, ed⟩
  · rw [(e3 _ _).2, ed]; exact k2
  · rw [ed]; exact a.K k3 (by decide)
  · rw [(e3 _ _).1]; exact k4
theorem fcMir.ext {h h' h'' : hp_T} (a : Ext h' h'') {c c' : Nat} (k : fcMir h h' c c') : fcMir h h'' c c' := by
  obtain ⟨k1, k2, k3, k4⟩ := k
  obtain ⟨f1, f2⟩ := k1.ext a
  obtain ⟨e1, e2, e3⟩ := a.1 c' (by rw [k1.1]; decide)
  exact ⟨f1, ((e3 _ _).1).trans k2, ((e3 _ _).1).trans k3, by rw [f2]; exact k4.ext a⟩
/-- seen from an older heap -/
theorem fcMir.old {h0 h h' : hp_T} (a : Ext h0 h) {c c' : Nat} (kc : fcOK h0 c) (k : fcMir h h' c c') : fcMir h0 h' c c' := by
  obtain ⟨k1, k2, k3, k4⟩ := k
  obtain ⟨f1, f2⟩ := kc.ext a
  obtain ⟨e1, e2, e3⟩ := a.1 c (by rw [kc.1]; decide)
  obtain ⟨g1, g2, g3⟩ := a.1 (dR h0 256 c) (by rw [kc.2.2.1]; decide)
  refine ⟨k1, k2.trans (e3 _ _).1, k3.trans (e3 _ _).1, ?_⟩
  rw [f2, (g3 _ _).1, (g3 _ _).1, (g3 _ _).1, (g3 _ _).1] at k4
  exact k4
theorem face_new {h : hp_T} {q1 q2 : Nat} {x y w hh wr ch : Int32} (f1 : hK h q1 = 0) (f2 : hK h q2 = 0) (ne : ¬ q2 = q1) (hc : ch &&& 1 = ch) :
    Ext h (hface (hbox (hnew h q1 4 0) q2 x y w hh) q1 q2 wr ch) ∧ fcOK (hface (hbox (hnew h q1 4 0) q2 x y w hh) q1 q2 wr ch) q1 ∧ hI (hface (hbox (hnew h q1 4 0) q2 x y w hh) q1 q2 wr ch) 257 q1 0 = wr ∧ hI (hface (hbox (hnew h q1 4 0) q2 x y w hh) q1 q2 wr ch) 258 q1 0 = ch ∧ bx4 (hface (hbox (hnew h q1 4 0) q2 x y w hh) q1 q2 wr ch) (dR (hface (hbox (hnew h q1 4 0) q2 x y w hh) q1 q2 wr ch) 256 q1) x y w hh := by
  have ne' : ¬ q1 = q2 := fun e => ne e.symm
  have hd : dR (hface (hbox (hnew h q1 4 0) q2 x y w hh) q1 q2 wr ch) 256 q1 = q2 := by
    unfold dR hface hbox
    simp only [hK_sI, hN_sI, hI_sI, hR_sI, hC_sI, hK_sR, hN_sR, hI_sR, hR_sR, hC_sR, hK_new, hN_new, hI_new, hR_new, hC_new, Nat.reduceEqDiff, and_self, false_and, if_true, if_false]
    rfl
  have hq2 : hK (hnew h q1 4 0) q2 = 0 := by rw [hK_new, if_neg ne]; exact f2
  refine ⟨?_, ⟨?_, ?_, ?_, ?_⟩, ?_, ?_, ?_⟩
  · unfold hface
    exact ((((Ext.rfl.new f1 4 0).box hq2 _ _ _ _).sR f1 _ _ _).sI f1 _ _ _).sI f1 _ _ _
  · unfold hface hbox; simp only [hK_sI, hN_sI, hI_sI, hR_sI, hC_sI, hK_sR, hN_sR, hI_sR, hR_sR, hC_sR, hK_new, hN_new, hI_new, hR_new, hC_new, ne', if_true, if_false]
  · rw [hd]; unfold hface hbox; simp only [hK_sI, hN_sI, hI_sI, hR_sI, hC_sI, hK_sR, hN_sR, hI_sR, hR_sR, hC_sR, hK_new, hN_new, hI_new, hR_new, hC_new, Nat.reduceEqDiff, and_self, false_and, if_true, if_false]
  · rw [hd]; unfold hface hbox; simp only [hK_sI, hN_sI, hI_sI, hR_sI, hC_sI, hK_sR, hN_sR, hI_sR, hR_sR, hC_sR, hK_new, hN_new, hI_new, hR_new, hC_new, if_true]
  · unfold hface hbox; simp only [hK_sI, hN_sI, hI_sI, hR_sI, hC_sI, hK_sR, hN_sR, hI_sR, hR_sR, hC_sR, hK_new, hN_new, hI_new, hR_new, hC_new, Nat.reduceEqDiff, and_self, false_and, if_true, if_false, hc]
  · unfold hface hbox; simp only [hK_sI, hN_sI, hI_sI, hR_sI, hC_sI, hK_sR, hN_sR, hI_sR, hR_sR, hC_sR, hK_new, hN_new, hI_new, hR_new, hC_new, Nat.reduceEqDiff, and_self, false_and, if_true, if_false]
  · unfold hface hbox; simp only [hK_sI, hN_sI, hI_sI, hR_sI, hC_sI, hK_sR, hN_sR, hI_sR, hR_sR, hC_sR, hK_new, hN_new, hI_new, hR_new, hC_new, Nat.reduceEqDiff, and_self, false_and, if_true, if_false]
  · rw [hd]; unfold bx4 hface hbox; simp only [hK_sI, hN_sI, hI_sI, hR_sI, hC_sI, hK_sR, hN_sR, hI_sR, hR_sR, hC_sR, hK_new, hN_new, hI_new, hR_new, hC_new, Nat.reduceEqDiff, ne, and_self, false_and, and_false, if_true, if_false]
/-- a panel that is as a, mirrored, all new -/
def pnMir (h h' : hp_T) (a q : Nat) (n : Nat) : Prop := pnOK h' q ∧ hK h q = 0 ∧ hK h (dR h' 385 q) = 0 ∧
  bx4 h' (dR h' 384 q) (60 - (hI h 192 (dR h 384 a) 0 + hI h 194 (dR h 384 a) 0)) (hI h 193 (dR h 384 a) 0) (hI h 194 (dR h 384 a) 0) (hI h 195 (dR h 384 a) 0) ∧
  (∀ f, f < n → (pnFO h a f = none → pnFO h' q f = none) ∧ ∀ c, pnFO h a f = some c → ∃ c', pnFO h' q f = some c' ∧ fcMir h h' c c') ∧ ∀ f, n ≤ f → pnFO h' q f = none
theorem pn_new {h : hp_T} {a q1 q2 q3 : Nat} (k : pnOK h a) (f1 : hK h q1 = 0) (f2 : hK h q2 = 0) (n21 : ¬ q2 = q1) (f3 : hK h q3 = 0) (n31 : ¬ q3 = q1) (n32 : ¬ q3 = q2) :
    Ext h (hsR (hsR (hnew (hbox (hnew h q1 6 0) q2 (60 - (hI h 192 (dR h 384 a) 0 + hI h 194 (dR h 384 a) 0)) (hI h 193 (dR h 384 a) 0) (hI h 194 (dR h 384 a) 0) (hI h 195 (dR h 384 a) 0)) q3 170 12) 385 q1 0 (some q3)) 384 q1 0 (some q2)) ∧
    pnMir h (hsR (hsR (hnew (hbox (hnew h q1 6 0) q2 (60 - (hI h 192 (dR h 384 a) 0 + hI h 194 (dR h 384 a) 0)) (hI h 193 (dR h 384 a) 0) (hI h 194 (dR h 384 a) 0) (hI h 195 (dR h 384 a) 0)) q3 170 12) 385 q1 0 (some q3)) 384 q1 0 (some q2)) a q1 0 := by
  have n12 : ¬ q1 = q2 := fun e => n21 e.symm
  have n13 : ¬ q1 = q3 := fun e => n31 e.symm
  have n23 : ¬ q2 = q3 := fun e => n32 e.symm
  generalize hG : hsR (hsR (hnew (hbox (hnew h q1 6 0) q2 (60 - (hI h 192 (dR h 384 a) 0 + hI h 194 (dR h 384 a) 0)) (hI h 193 (dR h 384 a) 0) (hI h 194 (dR h 384 a) 0) (hI h 195 (dR h 384 a) 0)) q3 170 12) 385 q1 0 (some q3)) 384 q1 0 (some q2) = G
  have hE : Ext h G := by
    rw [← hG]
    have e1 := Ext.rfl.new f1 6 0
    have e2 := e1.box (q := q2) (by rw [hK_new, if_neg n21]; exact f2) (60 - (hI h 192 (dR h 384 a) 0 + hI h 194 (dR h 384 a) 0)) (hI h 193 (dR h 384 a) 0) (hI h 194 (dR h 384 a) 0) (hI h 195 (dR h 384 a) 0)
    have e3 := e2.new (q := q3) (by unfold hbox; simp only [hK_sI, hN_sI, hI_sI, hR_sI, hC_sI, hK_sR, hN_sR, hI_sR, hR_sR, hC_sR, hK_new, hN_new, hI_new, hR_new, hC_new, n31, n32, if_false]; exact f3) 170 12
    exact (e3.sR f1 _ _ _).sR f1 _ _ _
  have d5 : hR G 385 q1 0 = some q3 := by rw [← hG]; simp only [hK_sI, hN_sI, hI_sI, hR_sI, hC_sI, hK_sR, hN_sR, hI_sR, hR_sR, hC_sR, hK_new, hN_new, hI_new, hR_new, hC_new, Nat.reduceEqDiff, and_self, false_and, if_true, if_false]
  have d4 : hR G 384 q1 0 = some q2 := by rw [← hG]; simp only [hK_sI, hN_sI, hI_sI, hR_sI, hC_sI, hK_sR, hN_sR, hI_sR, hR_sR, hC_sR, hK_new, hN_new, hI_new, hR_new, hC_new, and_self, if_true]
  have ed5 := dR_of d5
  have ed4 := dR_of d4
  have hfo : ∀ f, pnFO G q1 f = none := fun f => by
    unfold pnFO
    rw [ed5, ← hG]
    simp only [hK_sI, hN_sI, hI_sI, hR_sI, hC_sI, hK_sR, hN_sR, hI_sR, hR_sR, hC_sR, hK_new, hN_new, hI_new, hR_new, hC_new, Nat.reduceEqDiff, false_and, if_true, if_false]
  have k3 : hK G q3 = 170 := by rw [← hG]; simp only [hK_sI, hN_sI, hI_sI, hR_sI, hC_sI, hK_sR, hN_sR, hI_sR, hR_sR, hC_sR, hK_new, hN_new, hI_new, hR_new, hC_new, if_true]
  have n3 : hN G q3 = 12 := by rw [← hG]; simp only [hK_sI, hN_sI, hI_sI, hR_sI, hC_sI, hK_sR, hN_sR, hI_sR, hR_sR, hC_sR, hK_new, hN_new, hI_new, hR_new, hC_new, if_true]
  have k1 : hK G q1 = 6 := by rw [← hG]; unfold hbox; simp only [hK_sI, hN_sI, hI_sI, hR_sI, hC_sI, hK_sR, hN_sR, hI_sR, hR_sR, hC_sR, hK_new, hN_new, hI_new, hR_new, hC_new, n13, n12, if_true, if_false]
  have b2 : bx4 G q2 (60 - (hI h 192 (dR h 384 a) 0 + hI h 194 (dR h 384 a) 0)) (hI h 193 (dR h 384 a) 0) (hI h 194 (dR h 384 a) 0) (hI h 195 (dR h 384 a) 0) := by
    rw [← hG]; unfold bx4 hbox; simp only [hK_sI, hN_sI, hI_sI, hR_sI, hC_sI, hK_sR, hN_sR, hI_sR, hR_sR, hC_sR, hK_new, hN_new, hI_new, hR_new, hC_new, Nat.reduceEqDiff, n23, and_self, false_and, and_false, if_true, if_false]
  refine ⟨hE, ⟨⟨k1, by rw [ed5]; exact d5, by rw [ed5]; exact k3, by rw [ed5]; exact n3⟩, ⟨by rw [ed4]; exact d4, by rw [ed4]; exact b2.1⟩, fun f _ c hc => ?_⟩, f1, by rw [ed5]; exact f3, by rw [ed4]; exact b2, fun f hf => absurd hf (Nat.not_lt_zero f), fun f _ => hfo f⟩
  rw [hfo f] at hc; cases hc
theorem pnMir.ext {h h' h'' : hp_T} {a q n : Nat} (e : Ext h' h'') (k : pnMir h h' a q n) : pnMir h h'' a q n := by
  obtain ⟨⟨⟨p1, p2, p3, p4⟩, ⟨p5, p6⟩, p7⟩, k2, k3, k4, k5, k6⟩ := k
  obtain ⟨e1, e2, e3⟩ := e.1 q (by rw [p1]; decide)
  have ed5 : dR h'' 385 q = dR h' 385 q := by unfold dR; rw [(e3 _ _).2]
  have ed4 : dR h'' 384 q = dR h' 384 q := by unfold dR; rw [(e3 _ _).2]
  obtain ⟨g1, g2, g3⟩ := e.1 (dR h' 385 q) (by rw [p3]; decide)
  have efo : ∀ f, pnFO h'' q f = pnFO h' q f := fun f => by unfold pnFO; rw [ed5, (g3 _ _).2]
  refine ⟨⟨⟨e1.trans p1, by rw [ed5, (e3 _ _).2]; exact p2, by rw [ed5]; exact g1.trans p3, by rw [ed5]; exact g2.trans p4⟩, ⟨by rw [ed4, (e3 _ _).2]; exact p5, by rw [ed4]; exact e.K p6 (by decide)⟩, fun f hf c hc => ?_⟩, k2, by rw [ed5]; exact k3, by rw [ed4]; exact k4.ext e, fun f hf => ?_, fun f hf => by rw [efo]; exact k6 f hf⟩
  · rw [efo] at hc; exact ((p7 f hf c hc).ext e).1
  · rw [efo]
    exact ⟨(k5 f hf).1, fun c hc => (((k5 f hf).2 c hc).elim (fun c' z => ⟨c', z.1, z.2.ext e⟩))⟩
theorem pnMir.put {h h' : hp_T} {a q n c q1 : Nat} (k : pnMir h h' a q n) (hn : n < 12) (hc : pnFO h a n = some c) (hf : fcMir h h' c q1) : pnMir h (hsR h' 170 (dR h' 385 q) n (some q1)) a q (n + 1) := by
  obtain ⟨⟨⟨p1, p2, p3, p4⟩, ⟨p5, p6⟩, p7⟩, k2, k3, k4, k5, k6⟩ := k
  have ed5 : dR (hsR h' 170 (dR h' 385 q) n (some q1)) 385 q = dR h' 385 q := by unfold dR; simp only [hK_sI, hN_sI, hI_sI, hR_sI, hC_sI, hK_sR, hN_sR, hI_sR, hR_sR, hC_sR, hK_new, hN_new, hI_new, hR_new, hC_new, Nat.reduceEqDiff, false_and, if_false]
  have ed4 : dR (hsR h' 170 (dR h' 385 q) n (some q1)) 384 q = dR h' 384 q := by unfold dR; simp only [hK_sI, hN_sI, hI_sI, hR_sI, hC_sI, hK_sR, hN_sR, hI_sR, hR_sR, hC_sR, hK_new, hN_new, hI_new, hR_new, hC_new, Nat.reduceEqDiff, false_and, if_false]
  have ed6 : ∀ x, dR (hsR h' 170 (dR h' 385 q) n (some q1)) 256 x = dR h' 256 x := fun x => by unfold dR; simp only [hK_sI, hN_sI, hI_sI, hR_sI, hC_sI, hK_sR, hN_sR, hI_sR, hR_sR, hC_sR, hK_new, hN_new, hI_new, hR_new, hC_new, Nat.reduceEqDiff, false_and, if_false]
  have efo : ∀ f, pnFO (hsR h' 170 (dR h' 385 q) n (some q1)) q f = if f = n then some q1 else pnFO h' q f := fun f => by
    unfold pnFO; rw [ed5]; simp only [hK_sI, hN_sI, hI_sI, hR_sI, hC_sI, hK_sR, hN_sR, hI_sR, hR_sR, hC_sR, hK_new, hN_new, hI_new, hR_new, hC_new, true_and]
  have eok : ∀ x, fcOK h' x → fcOK (hsR h' 170 (dR h' 385 q) n (some q1)) x := fun x z => by
    refine ⟨z.1, ?_, ?_, z.2.2.2⟩
    · rw [ed6]; simp only [hK_sI, hN_sI, hI_sI, hR_sI, hC_sI, hK_sR, hN_sR, hI_sR, hR_sR, hC_sR, hK_new, hN_new, hI_new, hR_new, hC_new, Nat.reduceEqDiff, false_and, if_false]; exact z.2.1
    · rw [ed6]; exact z.2.2.1
  have emi : ∀ x y, fcMir h h' x y → fcMir h (hsR h' 170 (dR h' 385 q) n (some q1)) x y := fun x y z => ⟨eok _ z.1, z.2.1, z.2.2.1, by rw [ed6]; exact z.2.2.2⟩
  refine ⟨⟨⟨p1, ?_, by rw [ed5]; exact p3, by rw [ed5]; exact p4⟩, ⟨?_, by rw [ed4]; exact p6⟩, fun f hf2 x hx => ?_⟩, k2, by rw [ed5]; exact k3, by rw [ed4]; exact k4, fun f hf2 => ?_, fun f hf2 => ?_⟩
  · rw [ed5]; simp only [hK_sI, hN_sI, hI_sI, hR_sI, hC_sI, hK_sR, hN_sR, hI_sR, hR_sR, hC_sR, hK_new, hN_new, hI_new, hR_new, hC_new, Nat.reduceEqDiff, false_and, if_false]; exact p2
  · rw [ed4]; simp only [hK_sI, hN_sI, hI_sI, hR_sI, hC_sI, hK_sR, hN_sR, hI_sR, hR_sR, hC_sR, hK_new, hN_new, hI_new, hR_new, hC_new, Nat.reduceEqDiff, false_and, if_false]; exact p5
  · rw [efo] at hx
    by_cases e : f = n
    · rw [if_pos e] at hx; cases hx; exact eok _ hf.1
    · rw [if_neg e] at hx; exact eok _ (p7 f hf2 x hx)
  · rw [efo]
    by_cases e : f = n
    · subst e
      rw [if_pos rfl]
      exact ⟨fun z => (by rw [hc] at z; cases z), fun x hx => (by rw [hc] at hx; cases hx; exact ⟨q1, rfl, emi _ _ hf⟩)⟩
    · rw [if_neg e]
      obtain ⟨z1, z2⟩ := k5 f (by omega)
      exact ⟨z1, fun x hx => (z2 x hx).elim (fun c' z => ⟨c', z.1, emi _ _ z.2⟩)⟩
  · rw [efo, if_neg (by omega)]; exact k6 f (by omega)
theorem pnMir.skip {h h' : hp_T} {a q n : Nat} (k : pnMir h h' a q n) (hc : pnFO h a n = none) : pnMir h h' a q (n + 1) := by
  obtain ⟨p, k2, k3, k4, k5, k6⟩ := k
  refine ⟨p, k2, k3, k4, fun f hf => ?_, fun f hf => k6 f (by omega)⟩
  by_cases e : f = n
  · subst e
    exact ⟨fun _ => k6 f (Nat.le_refl _), fun x hx => by rw [hc] at hx; cases hx⟩
  · exact k5 f (by omega)
def wp_X4_mirrored_0 (P : Option Value → hp_T → Prop) (X : String → hp_T → Prop) (K17 : KT) : KT :=
  i_new 6 (i_dup (i_aload 0 (i_getR 6 384 (i_callV 0 3 T_X1_mirrored noX (i_callI 1 T_X4_init noX (i_astore 1 (i_pushI 0 (i_istore 2 K17))))))))
set_option maxRecDepth 20000 in
theorem go_X4_mirrored_0 {z : zT} {P : Option Value → hp_T → Prop} {X : String → hp_T → Prop} {K17 : KT} (hz : Cx z cX4_mirrored 4 "Panelry$Panel" "mirrored" 4 40 200) (hr : Rt z (some (.object "Panelry$Panel")) P X 40 200) (h17 : Go z (3) (18) 17 K17) : Go z 0 0 0 (wp_X4_mirrored_0 P X K17) := 
  s_new hz kO_6 cls5 w594 w502 w48 rfl rfl dX4_mirrored_0 (s_dup hz dX4_mirrored_3 (s_aload_n hz rfl dX4_mirrored_4 (fg_RX4_17 hz dX4_mirrored_5 (s_callV hz ct_X1_mirrored ⟨w595, w598, w47, by decide, by decide, by decide +kernel⟩ w596 w597 cls2 rfl rfl rfl rfl rfl rfl out_no dX4_mirrored_8
    (s_callI hz ct_X4_init ⟨w601, w505, w48, by decide, by decide, by decide +kernel⟩ w504 rfl rfl rfl rfl rfl out_no dX4_mirrored_11 (s_astore_n hz rfl rfl dX4_mirrored_14 (s_iconst hz rfl dX4_mirrored_15
    (s_istore_n hz rfl rfl dX4_mirrored_16 (Go.widen _ _ h17 (by omega) (by omega))))))))))
def wp_X4_mirrored_46 (P : Option Value → hp_T → Prop) (X : String → hp_T → Prop) (K17 : KT) : KT :=
  i_iinc 2 1 K17
set_option maxRecDepth 20000 in
theorem go_X4_mirrored_46 {z : zT} {C S : Nat} {P : Option Value → hp_T → Prop} {X : String → hp_T → Prop} {K17 : KT} (hz : Cx z cX4_mirrored 4 "Panelry$Panel" "mirrored" 4 40 200) (hr : Rt z (some (.object "Panelry$Panel")) P X 40 200) (hC : C + 0 ≤ 40) (hS : S + 0 ≤ 200) (h17 : Go z (C + 0) (S + 0) 17 K17) : Go z C S 46 (wp_X4_mirrored_46 P X K17) := 
  s_iinc hz rfl rfl dX4_mirrored_46 (s_goto hz (tgt := 17) rfl dX4_mirrored_49 (Go.widen _ _ h17 (by omega) (by omega)))
def wp_X4_mirrored_17 (P : Option Value → hp_T → Prop) (X : String → hp_T → Prop) (K17 : KT) : KT :=
  i_iload 2 (i_aload 0 (i_getR 6 385 (i_alen (i_icge (i_aload 1 (i_aret P)) (i_aload 0 (i_getR 6 385 (i_iload 2 (i_aald 170 (i_astore 3 (i_aload 3 (i_ifnull (wp_X4_mirrored_46 P X K17)
    (i_aload 1 (i_iload 2 (i_aload 3 (i_callV 0 4 T_X2_mirrored noX (i_callV 2 6 T_X4_putFace noX (wp_X4_mirrored_46 P X K17)))))))))))))))))
set_option maxRecDepth 20000 in
theorem go_X4_mirrored_17 {z : zT} {C S : Nat} {P : Option Value → hp_T → Prop} {X : String → hp_T → Prop} {K17 : KT} (hz : Cx z cX4_mirrored 4 "Panelry$Panel" "mirrored" 4 40 200) (hr : Rt z (some (.object "Panelry$Panel")) P X 40 200) (hC : C + 2 ≤ 40) (hS : S + 7 ≤ 200) (h17 : Go z (C + 2) (S + 7) 17 K17) : Go z C S 17 (wp_X4_mirrored_17 P X K17) := 
  s_iload_n hz rfl dX4_mirrored_17 (s_aload_n hz rfl dX4_mirrored_18 (fg_RX4_11 hz dX4_mirrored_19 (s_alen hz dX4_mirrored_22 (s_icge hz (tgt := 52) rfl dX4_mirrored_23 (s_aload_n hz rfl dX4_mirrored_52
    (s_aret hz hr (Or.inl ⟨_, rfl⟩) (ble_of (by omega)) (ble_of (by omega)) dX4_mirrored_53)) (s_aload_n hz rfl dX4_mirrored_26 (fg_RX4_11 hz dX4_mirrored_27 (s_iload_n hz rfl dX4_mirrored_30
    (s_aald hz rfl rfl rfl (Or.inr rfl) dX4_mirrored_31 (s_astore_n hz rfl rfl dX4_mirrored_32 (s_aload_n hz rfl dX4_mirrored_33 (s_ifnull hz (tgt := 46) rfl dX4_mirrored_34 (go_X4_mirrored_46 hz hr
    (by omega) (by omega) (Go.widen _ _ h17 (by omega) (by omega))) (s_aload_n hz rfl dX4_mirrored_37 (s_iload_n hz rfl dX4_mirrored_38 (s_aload_n hz rfl dX4_mirrored_39 (s_callV hz ct_X2_mirrored ⟨w602, w605, w51, by decide, by decide, by decide +kernel⟩ w603 w604 cls3 rfl rfl rfl rfl
    (ble_of (by omega)) (ble_of (by omega)) out_no dX4_mirrored_40 (s_callV hz ct_X4_putFace ⟨w626, w629, w48, by decide, by decide, by decide +kernel⟩ w627 w628 cls5 rfl rfl rfl rfl (ble_of
    (by omega)) (ble_of (by omega)) out_no dX4_mirrored_43 (go_X4_mirrored_46 hz hr (by omega) (by omega) (Go.widen _ _ h17 (by omega) (by omega)))))))))))))))))))

def T_X4_mirrored : PT := fun av h P X => match av with
  | [.ref a] => (pnOK h a) ∧ (∀ h' q, Ext h h' → pnMir h h' a q 12 → P (some (.ref q)) h')
  | _ => False
set_option maxRecDepth 20000 in
theorem ct_X4_mirrored : CT yX4_mirrored cX4_mirrored 4 (some (.object "Panelry$Panel")) 4 40 200 T_X4_mirrored := by
  refine ct_ofE (by decide) (fun z av h P X hT hz hr => ?_) (fun av h P X hT => ?_)
  · unfold T_X4_mirrored at hT
    split at hT
    · rename_i a
      obtain ⟨hk, hp⟩ := hT
      have hloop := Go.loopA (z := z) (pc := 17) (fun i => 3 + 2 * i) (fun i => 18 + 7 * i) 12 (fun i ls st h' => ∃ q o, ls = [some (.ref a), some (.ref q), some (.int (nI i)), o] ∧ st = [] ∧ Ext h h' ∧ pnMir h h' a q i) (fun k => wp_X4_mirrored_17 P X k) (fun i k hi hgo => go_X4_mirrored_17 hz hr (by omega) (by omega) (Go.widen _ _ hgo (by omega) (by omega))) (by
        rintro i hi ls st h' ⟨q, o, rfl, rfl, hE, hM⟩
        have hk0 := hk
        obtain ⟨⟨k1, k2, k3, k4⟩, ⟨k5, k5'⟩, k6⟩ := hk
        have hcl : (nI i).toNatClampNeg = i := nI_clamp (by omega)
        obtain ⟨e1, e2, e3⟩ := hE.1 a (by rw [k1]; decide)
        obtain ⟨g1, g2, g3⟩ := hE.1 (dR h 385 a) (by rw [k3]; decide)
        have ka : hK h' a = 6 := e1.trans k1
        have ra : hR h' 385 a 0 = some (dR h 385 a) := (e3 _ _).2.trans k2
        have kd : hK h' (dR h 385 a) = 170 := g1.trans k3
        have nd : hN h' (dR h 385 a) = 12 := g2.trans k4
        have hfo : hR h' 170 (dR h 385 a) i = pnFO h a i := (g3 _ _).2
        simp only [wp_X4_mirrored_0, wp_X4_mirrored_46, wp_X4_mirrored_17, T_X1_mirrored, T_X4_init, T_X2_mirrored, T_X4_putFace, i_mmax, i_mmin, i_pushI, i_pushN, i_pushL, i_iload, i_aload, i_istore, i_astore, i_iinc, i_iadd, i_isub, i_imul, i_iand, i_ior, i_ixor, i_ishl, i_ishr, i_iushr, i_idiv, i_i2l, i_lcmp, i_dup, i_pop, i_dupx1, i_dup2, i_ifeq, i_ifne, i_iflt, i_ifge, i_ifgt, i_ifle, i_iceq, i_icne, i_iclt, i_icge, i_icgt, i_icle, i_ifnull, i_aceq, i_getI, i_getR, i_putI, i_putZ, i_putR, i_new, i_newarr, i_ald, i_lald, i_aald, i_alen, i_ast, i_zast, i_last, i_aast, i_aastL, i_cast, i_gste, i_ldcM, i_getC, i_acopy, i_dead, i_objinit, i_callV, i_callS, i_callI, i_iret, i_zret, i_aret, i_vret, i_throw, popN, pushO, lget, lset, isRf_ref, isRf_null, isRf_rf, isC1_int, isC1_ref, isC1_null, isC1_rf, true_and, and_true, List.length_cons, List.length_nil, Nat.reduceAdd, Nat.reduceLeDiff, hK_sI, hN_sI, hR_sI, hI_sI, hK_sR, hN_sR, hR_sR, hI_sR, kC_2, kC_3, kC_4, kC_5, kC_6, kC_7, kC_8, kC_9, kC_10, kC_11, kC_20, kC_21, kC_22, kC_23, i2_0, i1_1, i0_1, i1_0, bI_and, bI_0, Decidable.not_not, not_false_eq_true, not_true_eq_false, forall_const, false_implies, true_implies, hK_copy, hN_copy, hI_copy, hC_sI, hC_sR, hC_new, hK_new, hN_new, hI_new, hR_new, rf_some, rf_none, ex_ref, ex_null, ex_rf, nref_null, rf_null, Nat.reduceEqDiff, reduceCtorEq, false_and, and_false, if_false, if_true, ne_eq, kO_150, kO_151, kO_152, kO_170, kO_180, kO_190, Value.ref.injEq, exists_eq_left', false_or, ka, ra, kd, nd, o12, hcl, hfo, le12 hi]
        refine ⟨fun e => ?_, fun e => ⟨vp_in_nI (by omega) (by decide), fun e2 => ?_, fun e2 => ?_⟩⟩
        · subst e; exact hp h' q hE hM
        · exact ⟨by omega, q, some (va_rf (pnFO h a i)), by rw [e2, nI_1], hE, hM.skip e2⟩
        · obtain ⟨c, hc⟩ := (pn_null _).mp e2
          have kc := k6 i (by omega) c hc
          obtain ⟨⟨c1, c2, c3, c4⟩, ced⟩ := kc.ext hE
          have hpf := hM.1.1
          have hlt : ¬ nI i < 0 ∧ nI i < 12 := ⟨nI_pos (by omega), nI_lt (b := 12) (by omega) (by decide)⟩
          simp only [wp_X4_mirrored_0, wp_X4_mirrored_46, wp_X4_mirrored_17, T_X1_mirrored, T_X4_init, T_X2_mirrored, T_X4_putFace, i_mmax, i_mmin, i_pushI, i_pushN, i_pushL, i_iload, i_aload, i_istore, i_astore, i_iinc, i_iadd, i_isub, i_imul, i_iand, i_ior, i_ixor, i_ishl, i_ishr, i_iushr, i_idiv, i_i2l, i_lcmp, i_dup, i_pop, i_dupx1, i_dup2, i_ifeq, i_ifne, i_iflt, i_ifge, i_ifgt, i_ifle, i_iceq, i_icne, i_iclt, i_icge, i_icgt, i_icle, i_ifnull, i_aceq, i_getI, i_getR, i_putI, i_putZ, i_putR, i_new, i_newarr, i_ald, i_lald, i_aald, i_alen, i_ast, i_zast, i_last, i_aast, i_aastL, i_cast, i_gste, i_ldcM, i_getC, i_acopy, i_dead, i_objinit, i_callV, i_callS, i_callI, i_iret, i_zret, i_aret, i_vret, i_throw, popN, pushO, lget, lset, isRf_ref, isRf_null, isRf_rf, isC1_int, isC1_ref, isC1_null, isC1_rf, true_and, and_true, List.length_cons, List.length_nil, Nat.reduceAdd, Nat.reduceLeDiff, hK_sI, hN_sI, hR_sI, hI_sI, hK_sR, hN_sR, hR_sR, hI_sR, kC_2, kC_3, kC_4, kC_5, kC_6, kC_7, kC_8, kC_9, kC_10, kC_11, kC_20, kC_21, kC_22, kC_23, i2_0, i1_1, i0_1, i1_0, bI_and, bI_0, Decidable.not_not, not_false_eq_true, not_true_eq_false, forall_const, false_implies, true_implies, hK_copy, hN_copy, hI_copy, hC_sI, hC_sR, hC_new, hK_new, hN_new, hI_new, hR_new, rf_some, rf_none, ex_ref, ex_null, ex_rf, nref_null, rf_null, Nat.reduceEqDiff, reduceCtorEq, false_and, and_false, if_false, if_true, ne_eq, kO_150, kO_151, kO_152, kO_170, kO_180, kO_190, Value.ref.injEq, exists_eq_left', false_or, hc, c1, c2, c3, c4, hcl, hpf.1]
          intro q1 hq1 q2 hq2 hne
          have hfn := face_new (x := 60 - (hI h' 192 (dR h' 256 c) 0 + hI h' 194 (dR h' 256 c) 0)) (y := hI h' 193 (dR h' 256 c) 0) (w := hI h' 194 (dR h' 256 c) 0) (hh := hI h' 195 (dR h' 256 c) 0) (wr := hI h' 257 c 0) (ch := hI h' 258 c 0) hq1 hq2 hne c4
          generalize hface (hbox (hnew h' q1 4 0) q2 (60 - (hI h' 192 (dR h' 256 c) 0 + hI h' 194 (dR h' 256 c) 0)) (hI h' 193 (dR h' 256 c) 0) (hI h' 194 (dR h' 256 c) 0) (hI h' 195 (dR h' 256 c) 0)) q1 q2 (hI h' 257 c 0) (hI h' 258 c 0) = G at hfn ⊢
          obtain ⟨f1, f2, f3, f4, f5⟩ := hfn
          have hM2 := hM.ext f1
          have hmm : fcMir h G c q1 := fcMir.old hE kc ⟨f2, f3, f4, f5⟩
          have kq : kC (hK G q) = 6 := by rw [hM2.1.1.1]; rfl
          simp only [wp_X4_mirrored_0, wp_X4_mirrored_46, wp_X4_mirrored_17, T_X1_mirrored, T_X4_init, T_X2_mirrored, T_X4_putFace, i_mmax, i_mmin, i_pushI, i_pushN, i_pushL, i_iload, i_aload, i_istore, i_astore, i_iinc, i_iadd, i_isub, i_imul, i_iand, i_ior, i_ixor, i_ishl, i_ishr, i_iushr, i_idiv, i_i2l, i_lcmp, i_dup, i_pop, i_dupx1, i_dup2, i_ifeq, i_ifne, i_iflt, i_ifge, i_ifgt, i_ifle, i_iceq, i_icne, i_iclt, i_icge, i_icgt, i_icle, i_ifnull, i_aceq, i_getI, i_getR, i_putI, i_putZ, i_putR, i_new, i_newarr, i_ald, i_lald, i_aald, i_alen, i_ast, i_zast, i_last, i_aast, i_aastL, i_cast, i_gste, i_ldcM, i_getC, i_acopy, i_dead, i_objinit, i_callV, i_callS, i_callI, i_iret, i_zret, i_aret, i_vret, i_throw, popN, pushO, lget, lset, isRf_ref, isRf_null, isRf_rf, isC1_int, isC1_ref, isC1_null, isC1_rf, true_and, and_true, List.length_cons, List.length_nil, Nat.reduceAdd, Nat.reduceLeDiff, hK_sI, hN_sI, hR_sI, hI_sI, hK_sR, hN_sR, hR_sR, hI_sR, kC_2, kC_3, kC_4, kC_5, kC_6, kC_7, kC_8, kC_9, kC_10, kC_11, kC_20, kC_21, kC_22, kC_23, i2_0, i1_1, i0_1, i1_0, bI_and, bI_0, Decidable.not_not, not_false_eq_true, not_true_eq_false, forall_const, false_implies, true_implies, hK_copy, hN_copy, hI_copy, hC_sI, hC_sR, hC_new, hK_new, hN_new, hI_new, hR_new, rf_some, rf_none, ex_ref, ex_null, ex_rf, nref_null, rf_null, Nat.reduceEqDiff, reduceCtorEq, false_and, and_false, if_false, if_true, ne_eq, kO_150, kO_151, kO_152, kO_170, kO_180, kO_190, Value.ref.injEq, exists_eq_left', false_or, hlt, hcl, kq, f2.1]
          refine ⟨hM2.1.1, by omega, q, some (.ref c), by rw [nI_1], ?_, hM2.put (by omega) hc hmm⟩
          exact (hE.trans f1).sR hM2.2.2.1 _ _ _) 0 (Nat.zero_le _)
      refine ⟨_, go_X4_mirrored_0 hz hr (Go.widen _ _ hloop (by omega) (by omega)), ?_⟩
      show wp_X4_mirrored_0 P X _ [some (.ref a), none, none, none] [] h
      obtain ⟨⟨k1, k2, k3, k4⟩, ⟨k5, k5'⟩, k6⟩ := id hk
      simp only [wp_X4_mirrored_0, wp_X4_mirrored_46, wp_X4_mirrored_17, T_X1_mirrored, T_X4_init, T_X2_mirrored, T_X4_putFace, i_mmax, i_mmin, i_pushI, i_pushN, i_pushL, i_iload, i_aload, i_istore, i_astore, i_iinc, i_iadd, i_isub, i_imul, i_iand, i_ior, i_ixor, i_ishl, i_ishr, i_iushr, i_idiv, i_i2l, i_lcmp, i_dup, i_pop, i_dupx1, i_dup2, i_ifeq, i_ifne, i_iflt, i_ifge, i_ifgt, i_ifle, i_iceq, i_icne, i_iclt, i_icge, i_icgt, i_icle, i_ifnull, i_aceq, i_getI, i_getR, i_putI, i_putZ, i_putR, i_new, i_newarr, i_ald, i_lald, i_aald, i_alen, i_ast, i_zast, i_last, i_aast, i_aastL, i_cast, i_gste, i_ldcM, i_getC, i_acopy, i_dead, i_objinit, i_callV, i_callS, i_callI, i_iret, i_zret, i_aret, i_vret, i_throw, popN, pushO, lget, lset, isRf_ref, isRf_null, isRf_rf, isC1_int, isC1_ref, isC1_null, isC1_rf, true_and, and_true, List.length_cons, List.length_nil, Nat.reduceAdd, Nat.reduceLeDiff, hK_sI, hN_sI, hR_sI, hI_sI, hK_sR, hN_sR, hR_sR, hI_sR, kC_2, kC_3, kC_4, kC_5, kC_6, kC_7, kC_8, kC_9, kC_10, kC_11, kC_20, kC_21, kC_22, kC_23, i2_0, i1_1, i0_1, i1_0, bI_and, bI_0, Decidable.not_not, not_false_eq_true, not_true_eq_false, forall_const, false_implies, true_implies, hK_copy, hN_copy, hI_copy, hC_sI, hC_sR, hC_new, hK_new, hN_new, hI_new, hR_new, rf_some, rf_none, ex_ref, ex_null, ex_rf, nref_null, rf_null, Nat.reduceEqDiff, reduceCtorEq, false_and, and_false, if_false, if_true, ne_eq, kO_150, kO_151, kO_152, kO_170, kO_180, kO_190, Value.ref.injEq, exists_eq_left', false_or, ]
      intro q hq
      have hne : ¬ a = q := fun e => by rw [e, hq] at k1; cases k1
      have hne2 : ¬ dR h 384 a = q := fun e => by rw [e, hq] at k5'; cases k5'
      simp only [wp_X4_mirrored_0, wp_X4_mirrored_46, wp_X4_mirrored_17, T_X1_mirrored, T_X4_init, T_X2_mirrored, T_X4_putFace, i_mmax, i_mmin, i_pushI, i_pushN, i_pushL, i_iload, i_aload, i_istore, i_astore, i_iinc, i_iadd, i_isub, i_imul, i_iand, i_ior, i_ixor, i_ishl, i_ishr, i_iushr, i_idiv, i_i2l, i_lcmp, i_dup, i_pop, i_dupx1, i_dup2, i_ifeq, i_ifne, i_iflt, i_ifge, i_ifgt, i_ifle, i_iceq, i_icne, i_iclt, i_icge, i_icgt, i_icle, i_ifnull, i_aceq, i_getI, i_getR, i_putI, i_putZ, i_putR, i_new, i_newarr, i_ald, i_lald, i_aald, i_alen, i_ast, i_zast, i_last, i_aast, i_aastL, i_cast, i_gste, i_ldcM, i_getC, i_acopy, i_dead, i_objinit, i_callV, i_callS, i_callI, i_iret, i_zret, i_aret, i_vret, i_throw, popN, pushO, lget, lset, isRf_ref, isRf_null, isRf_rf, isC1_int, isC1_ref, isC1_null, isC1_rf, true_and, and_true, List.length_cons, List.length_nil, Nat.reduceAdd, Nat.reduceLeDiff, hK_sI, hN_sI, hR_sI, hI_sI, hK_sR, hN_sR, hR_sR, hI_sR, kC_2, kC_3, kC_4, kC_5, kC_6, kC_7, kC_8, kC_9, kC_10, kC_11, kC_20, kC_21, kC_22, kC_23, i2_0, i1_1, i0_1, i1_0, bI_and, bI_0, Decidable.not_not, not_false_eq_true, not_true_eq_false, forall_const, false_implies, true_implies, hK_copy, hN_copy, hI_copy, hC_sI, hC_sR, hC_new, hK_new, hN_new, hI_new, hR_new, rf_some, rf_none, ex_ref, ex_null, ex_rf, nref_null, rf_null, Nat.reduceEqDiff, reduceCtorEq, false_and, and_false, if_false, if_true, ne_eq, kO_150, kO_151, kO_152, kO_170, kO_180, kO_190, Value.ref.injEq, exists_eq_left', false_or, hne, hne2, k1, k5, k5']
      intro q2 hq2
      by_cases e2 : q2 = q
      · simp [e2] at hq2
      · simp only [e2, if_false] at hq2
        have e2' : ¬ q = q2 := fun e => e2 e.symm
        have hkq : hK (hbox (hnew h q 6 0) q2 (60 - (hI h 192 (dR h 384 a) 0 + hI h 194 (dR h 384 a) 0)) (hI h 193 (dR h 384 a) 0) (hI h 194 (dR h 384 a) 0) (hI h 195 (dR h 384 a) 0)) q = 6 := by unfold hbox; simp only [hK_sI, hK_new, e2', if_true, if_false]
        simp only [wp_X4_mirrored_0, wp_X4_mirrored_46, wp_X4_mirrored_17, T_X1_mirrored, T_X4_init, T_X2_mirrored, T_X4_putFace, i_mmax, i_mmin, i_pushI, i_pushN, i_pushL, i_iload, i_aload, i_istore, i_astore, i_iinc, i_iadd, i_isub, i_imul, i_iand, i_ior, i_ixor, i_ishl, i_ishr, i_iushr, i_idiv, i_i2l, i_lcmp, i_dup, i_pop, i_dupx1, i_dup2, i_ifeq, i_ifne, i_iflt, i_ifge, i_ifgt, i_ifle, i_iceq, i_icne, i_iclt, i_icge, i_icgt, i_icle, i_ifnull, i_aceq, i_getI, i_getR, i_putI, i_putZ, i_putR, i_new, i_newarr, i_ald, i_lald, i_aald, i_alen, i_ast, i_zast, i_last, i_aast, i_aastL, i_cast, i_gste, i_ldcM, i_getC, i_acopy, i_dead, i_objinit, i_callV, i_callS, i_callI, i_iret, i_zret, i_aret, i_vret, i_throw, popN, pushO, lget, lset, isRf_ref, isRf_null, isRf_rf, isC1_int, isC1_ref, isC1_null, isC1_rf, true_and, and_true, List.length_cons, List.length_nil, Nat.reduceAdd, Nat.reduceLeDiff, hK_sI, hN_sI, hR_sI, hI_sI, hK_sR, hN_sR, hR_sR, hI_sR, kC_2, kC_3, kC_4, kC_5, kC_6, kC_7, kC_8, kC_9, kC_10, kC_11, kC_20, kC_21, kC_22, kC_23, i2_0, i1_1, i0_1, i1_0, bI_and, bI_0, Decidable.not_not, not_false_eq_true, not_true_eq_false, forall_const, false_implies, true_implies, hK_copy, hN_copy, hI_copy, hC_sI, hC_sR, hC_new, hK_new, hN_new, hI_new, hR_new, rf_some, rf_none, ex_ref, ex_null, ex_rf, nref_null, rf_null, Nat.reduceEqDiff, reduceCtorEq, false_and, and_false, if_false, if_true, ne_eq, kO_150, kO_151, kO_152, kO_170, kO_180, kO_190, Value.ref.injEq, exists_eq_left', false_or, hkq]
        intro q3 hq3
        have n32 : ¬ q3 = q2 := fun e => by rw [e] at hq3; rw [(bx4_new _ _ _ _ _ _).1] at hq3; cases hq3
        have n31 : ¬ q3 = q := fun e => by rw [e, hkq] at hq3; cases hq3
        have hq3' : hK h q3 = 0 := by unfold hbox at hq3; simpa only [hK_sI, hK_new, n31, n32, if_false] using hq3
        obtain ⟨z1, z2⟩ := pn_new hk hq hq2 e2 hq3' n31 n32
        exact ⟨q, none, rfl, z1, z2⟩
    · exact hT.elim
  · unfold T_X4_mirrored at hT
    split at hT
    · exact ⟨Nat.le_of_ble_eq_true rfl, by simp [isC1_int, isC1_ref, isC1_null, isC1_rf]⟩
    · exact hT.elim
