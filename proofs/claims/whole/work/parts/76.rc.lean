def imK (k : Nat) : Bool := k == 3 || k == 4 || k == 6 || k == 9 || k == 152 || k == 190
def ownK (k : Nat) : Bool := k == 2 || k == 5 || k == 22 || k == 23 || k == 162 || k == 163 || k == 170
def topK (k : Nat) : Bool := k == 10 || k == 20 || k == 21 || k == 160 || k == 161
theorem imK_0 {k : Nat} (h : imK k = true) : k ≠ 0 := fun e => by rw [e] at h; cases h
theorem ownK_0 {k : Nat} (h : ownK k = true) : k ≠ 0 := fun e => by rw [e] at h; cases h
theorem topK_0 {k : Nat} (h : topK k = true) : k ≠ 0 := fun e => by rw [e] at h; cases h
/-- what came before stays: kinds, constants, the cells that never change -/
def Fr (h h' : hp_T) : Prop := (∀ b, hK h b ≠ 0 → hK h' b = hK h b) ∧ (∀ i, hC h' i = hC h i) ∧ ∀ b, imK (hK h b) = true → sameAt h h' b
theorem Fr.K {h h' : hp_T} (f : Fr h h') {b kd : Nat} (hb : hK h b = kd) (h0 : kd ≠ 0) : hK h' b = kd := (f.1 b (by rw [hb]; exact h0)).trans hb
theorem Fr.of_ext {h h' : hp_T} (e : Ext h h') : Fr h h' := ⟨fun b hb => (e.1 b hb).1, e.2, fun b hb => e.1 b (imK_0 hb)⟩
theorem sameAt.rfl {h : hp_T} {b : Nat} : sameAt h h b := ⟨Eq.refl _, Eq.refl _, fun _ _ => ⟨Eq.refl _, Eq.refl _⟩⟩
theorem Fr.rfl {h : hp_T} : Fr h h := ⟨fun _ _ => Eq.refl _, fun _ => Eq.refl _, fun _ _ => sameAt.rfl⟩
theorem Fr.trans {h h' h'' : hp_T} (a : Fr h h') (b : Fr h' h'') : Fr h h'' :=
  ⟨fun x hx => (b.1 x (by rw [a.1 x hx]; exact hx)).trans (a.1 x hx), fun i => (b.2.1 i).trans (a.2.1 i), fun x hx => (a.2.2 x hx).trans (b.2.2 x (by rw [a.1 x (imK_0 hx)]; exact hx))⟩
theorem Fr.box {h h' : hp_T} (f : Fr h h') {b : Nat} {x y w hh : Int32} (k : bx4 h b x y w hh) : bx4 h' b x y w hh := by
  obtain ⟨k1, k2, k3, k4, k5⟩ := k
  obtain ⟨e1, e2, e3⟩ := f.2.2 b (by rw [k1]; rfl)
  exact ⟨e1.trans k1, (e3 _ _).1.trans k2, (e3 _ _).1.trans k3, (e3 _ _).1.trans k4, (e3 _ _).1.trans k5⟩
theorem Fr.face {h h' : hp_T} (f : Fr h h') {c : Nat} (k : fcOK h c) : fcOK h' c ∧ dR h' 256 c = dR h 256 c := by
  obtain ⟨k1, k2, k3, k4⟩ := k
  have s := f.2.2 c (by rw [k1]; rfl)
  have d := s.dR 256
  obtain ⟨s1, s2, s3⟩ := s
  exact ⟨⟨s1.trans k1, by rw [d, (s3 _ _).2]; exact k2, by rw [d]; exact f.K k3 (by decide), by rw [(s3 _ _).1]; exact k4⟩, d⟩
/-- a face, or none, as the drawing d -/
def fcR (h : hp_T) (σ : sg_T) (d : Nat) (o : Option Nat) : Prop := match o with
  | none => σ 16 d = 0
  | some q => fcOK h q ∧ hI h 257 q 0 = σ 17 d ∧ hI h 258 q 0 = σ 18 d ∧ bx4 h (dR h 256 q) (σ 14 d) (σ 15 d) (σ 16 d) (σ 16 d) ∧ 0 < σ 16 d
theorem fcR.fr {h h' : hp_T} {σ σ' : sg_T} {d : Nat} {o : Option Nat} (x : fcR h σ d o) (f : Fr h h') (e : ∀ k, 14 ≤ k → k ≤ 18 → σ' k d = σ k d) : fcR h' σ' d o := by
  cases o with
  | none => exact (e 16 (by omega) (by omega)).trans x
  | some q =>
    obtain ⟨x1, x2, x3, x4, x5⟩ := x
    obtain ⟨y1, y2⟩ := f.face x1
    obtain ⟨s1, s2, s3⟩ := f.2.2 q (by rw [x1.1]; rfl)
    refine ⟨y1, ?_, ?_, ?_, ?_⟩
    · rw [(s3 _ _).1, e 17 (by omega) (by omega)]; exact x2
    · rw [(s3 _ _).1, e 18 (by omega) (by omega)]; exact x3
    · rw [y2, e 14 (by omega) (by omega), e 15 (by omega) (by omega), e 16 (by omega) (by omega)]; exact f.box x4
    · rw [e 16 (by omega) (by omega)]; exact x5
theorem fcR.ok {h : hp_T} {σ : sg_T} {d c : Nat} (x : fcR h σ d (some c)) : fcOK h c := x.1
/-- the panel i of the state -/
def pnR (h : hp_T) (σ : sg_T) (i q : Nat) : Prop := pnF h q ∧ (hR h 384 q 0 = some (dR h 384 q) ∧ bx4 h (dR h 384 q) (σ 9 i) (σ 10 i) (σ 11 i) (σ 12 i)) ∧ ∀ g, g < 12 → fcR h σ (12 * i + g) (pnFO h q g)
theorem pnR.ok {h : hp_T} {σ : sg_T} {i q : Nat} (x : pnR h σ i q) : pnOK h q := by
  obtain ⟨x1, ⟨x2, x3⟩, x4⟩ := x
  refine ⟨x1, ⟨x2, x3.1⟩, fun g hg c hc => ?_⟩
  have := x4 g hg
  rw [hc] at this
  exact this.ok
theorem pnR.fr {h h' : hp_T} {σ σ' : sg_T} {i q : Nat} (x : pnR h σ i q) (f : Fr h h') (s : sameAt h h' (dR h 385 q)) (e1 : ∀ k, 9 ≤ k → k ≤ 12 → σ' k i = σ k i) (e2 : ∀ g, g < 12 → ∀ k, 14 ≤ k → k ≤ 18 → σ' k (12 * i + g) = σ k (12 * i + g)) : pnR h' σ' i q ∧ dR h' 385 q = dR h 385 q := by
  obtain ⟨⟨x1, x2, x3, x4⟩, ⟨x5, x6⟩, x7⟩ := x
  have t := f.2.2 q (by rw [x1]; rfl)
  have d4 := t.dR 384
  have d5 := t.dR 385
  obtain ⟨t1, t2, t3⟩ := t
  obtain ⟨s1, s2, s3⟩ := s
  refine ⟨⟨⟨t1.trans x1, by rw [d5, (t3 _ _).2]; exact x2, by rw [d5, s1]; exact x3, by rw [d5, s2]; exact x4⟩, ⟨by rw [d4, (t3 _ _).2]; exact x5, ?_⟩, fun g hg => ?_⟩, d5⟩
  · rw [d4, e1 9 (by omega) (by omega), e1 10 (by omega) (by omega), e1 11 (by omega) (by omega), e1 12 (by omega) (by omega)]; exact f.box x6
  · have : pnFO h' q g = pnFO h q g := by unfold pnFO; rw [d5, (s3 _ _).2]
    rw [this]
    exact (x7 g hg).fr f (e2 g hg)
/-- the balloon i of the state -/
def blR (h : hp_T) (σ : sg_T) (i q : Nat) : Prop := (hK h q = 2 ∧ hR h 131 q 0 = some (dR h 131 q)) ∧ hI h 128 q 0 = σ 19 i ∧ hI h 129 q 0 = σ 24 i ∧ hI h 130 q 0 = σ 25 i ∧ bx4 h (dR h 131 q) (σ 20 i) (σ 21 i) (σ 22 i) (σ 23 i)
theorem blR.ok {h : hp_T} {σ : sg_T} {i q : Nat} (x : blR h σ i q) : blOK h q := ⟨x.1.1, x.1.2, x.2.2.2.2.1⟩
theorem blR.fr {h h' : hp_T} {σ σ' : sg_T} {i q : Nat} (x : blR h σ i q) (f : Fr h h') (s : sameAt h h' q) (e : ∀ k, 19 ≤ k → k ≤ 25 → σ' k i = σ k i) : blR h' σ' i q := by
  obtain ⟨⟨x1, x2⟩, x3, x4, x5, x6⟩ := x
  have d := s.dR 131
  obtain ⟨s1, s2, s3⟩ := s
  refine ⟨⟨s1.trans x1, by rw [d, (s3 _ _).2]; exact x2⟩, ?_, ?_, ?_, ?_⟩
  · rw [(s3 _ _).1, e 19 (by omega) (by omega)]; exact x3
  · rw [(s3 _ _).1, e 24 (by omega) (by omega)]; exact x4
  · rw [(s3 _ _).1, e 25 (by omega) (by omega)]; exact x5
  · rw [d, e 20 (by omega) (by omega), e 21 (by omega) (by omega), e 22 (by omega) (by omega), e 23 (by omega) (by omega)]; exact f.box x6
/-- the print of page p -/
def prR (h : hp_T) (σ : sg_T) (p : Nat) (o : Option Nat) : Prop := match o with
  | none => σ 5 p = -1
  | some r => ¬ σ 5 p = -1 ∧ hK h r = 152 ∧ hN h r = 11 ∧ hI h 152 r 0 = σ 5 p ∧ hI h 152 r 1 = σ 6 p ∧ hI h 152 r 2 = σ 7 p ∧ ∀ k, k < 8 → hI h 152 r (3 + k) = σ 8 (8 * p + k)
theorem prR.fr {h h' : hp_T} {σ σ' : sg_T} {p : Nat} {o : Option Nat} (x : prR h σ p o) (f : Fr h h') (e1 : ∀ k, 5 ≤ k → k ≤ 7 → σ' k p = σ k p) (e2 : ∀ i, i < 8 → σ' 8 (8 * p + i) = σ 8 (8 * p + i)) : prR h' σ' p o := by
  cases o with
  | none => exact (e1 5 (by omega) (by omega)).trans x
  | some r =>
    obtain ⟨x1, x2, x3, x4, x5, x6, x7⟩ := x
    obtain ⟨s1, s2, s3⟩ := f.2.2 r (by rw [x2]; rfl)
    refine ⟨?_, s1.trans x2, s2.trans x3, ?_, ?_, ?_, fun k hk => ?_⟩
    · rw [e1 5 (by omega) (by omega)]; exact x1
    · rw [(s3 _ _).1, e1 5 (by omega) (by omega)]; exact x4
    · rw [(s3 _ _).1, e1 6 (by omega) (by omega)]; exact x5
    · rw [(s3 _ _).1, e1 7 (by omega) (by omega)]; exact x6
    · rw [(s3 _ _).1, e2 k hk]; exact x7 k hk
abbrev ow_T : Type := Nat → Nat × Nat
def psR (h : hp_T) (σ : sg_T) (p L : Nat) : Prop := (hK h L = 22 ∧ lOK h L ∧ lsz h L = pN σ p ∧ pN σ p ≤ 8) ∧ ∀ j, j < pN σ p → pnR h σ (8 * p + j) (lel h L j)
def bsR (h : hp_T) (σ : sg_T) (p L : Nat) : Prop := (hK h L = 23 ∧ lOK h L ∧ lsz h L = bN σ p ∧ bN σ p ≤ 20) ∧ ∀ j, j < bN σ p → blR h σ (20 * p + j) (lel h L j)
/-- whose cells the panels' are: no two have one in common -/
def owP (o : ow_T) (h : hp_T) (σ : sg_T) (p L : Nat) : Prop := (o L).1 = p ∧ (hK h (lda h L) = 162 → (o (lda h L)).1 = p) ∧ ∀ j, j < pN σ p → o (dR h 385 (lel h L j)) = (p, j)
def owB (o : ow_T) (h : hp_T) (σ : sg_T) (p L : Nat) : Prop := (o L).1 = p ∧ (hK h (lda h L) = 163 → (o (lda h L)).1 = p) ∧ ∀ j, j < bN σ p → o (lel h L j) = (p, j)
/-- two states agree on page p -/
def sPg (σ σ' : sg_T) (p : Nat) : Prop := (∀ k, 1 ≤ k → k ≤ 7 → σ' k p = σ k p) ∧ (∀ k, 8 ≤ k → k ≤ 12 → ∀ i, i < 8 → σ' k (8 * p + i) = σ k (8 * p + i)) ∧ (∀ k, 14 ≤ k → k ≤ 18 → ∀ i, i < 8 → ∀ g, g < 12 → σ' k (12 * (8 * p + i) + g) = σ k (12 * (8 * p + i) + g)) ∧ ∀ k, 19 ≤ k → k ≤ 25 → ∀ i, i < 20 → σ' k (20 * p + i) = σ k (20 * p + i)
theorem sPg.rfl {σ : sg_T} {p : Nat} : sPg σ σ p := ⟨fun _ _ _ => Eq.refl _, fun _ _ _ _ _ => Eq.refl _, fun _ _ _ _ _ _ _ => Eq.refl _, fun _ _ _ _ _ => Eq.refl _⟩
/-- the list's row is the old empty one, or a row of its kind -/
theorem lOK.row {h : hp_T} {L : Nat} (k : lOK h L) : imK (hK h (lda h L)) = true ∨ hK h (lda h L) = hK h L + 140 := by
  obtain ⟨k1, k2, k3, k4, k5, k6⟩ := k
  rcases k5 with ⟨-, -, k5, -⟩ | ⟨k5, -⟩
  · exact Or.inl (by rw [k5]; rfl)
  · exact Or.inr k5
theorem psR.fr2 {h h' : hp_T} {σ σ' : sg_T} {p L : Nat} {o o' : ow_T} (x : psR h σ p L) (y : owP o h σ p L) (f : Fr h h') (sL : sameAt h h' L) (sD : sameAt h h' (lda h L)) (sJ : ∀ j, j < pN σ p → sameAt h h' (dR h 385 (lel h L j))) (ho : ∀ b, hK h b ≠ 0 → o' b = o b) (eN : σ' 2 p = σ 2 p) (e2 : ∀ k, 9 ≤ k → k ≤ 12 → ∀ i, i < 8 → σ' k (8 * p + i) = σ k (8 * p + i)) (e3 : ∀ k, 14 ≤ k → k ≤ 18 → ∀ i, i < 8 → ∀ g, g < 12 → σ' k (12 * (8 * p + i) + g) = σ k (12 * (8 * p + i) + g)) : psR h' σ' p L ∧ owP o' h' σ' p L := by
  obtain ⟨⟨x1, x2, x3, x8⟩, x4⟩ := x
  obtain ⟨y1, y2, y3⟩ := y
  have eN : pN σ' p = pN σ p := by unfold pN; rw [eN]
  obtain ⟨l1, l2, l3, l4⟩ := x2.same sL sD f.1 f.2.1
  have q : ∀ j, j < pN σ p → pnR h' σ' (8 * p + j) (lel h L j) ∧ dR h' 385 (lel h L j) = dR h 385 (lel h L j) := fun j hj => (x4 j hj).fr f (sJ j hj) (fun k a b => e2 k a b j (by omega)) (fun g hg k a b => e3 k a b j (by omega) g hg)
  refine ⟨⟨⟨sL.1.trans x1, l1, by rw [l2, eN]; exact x3, by rw [eN]; exact x8⟩, fun j hj => ?_⟩, ⟨?_, fun z => ?_, fun j hj => ?_⟩⟩
  · rw [l4]; exact (q j (by omega)).1
  · rw [ho L x2.live.1]; exact y1
  · rw [l3, ho _ x2.live.2]; rw [l3, f.1 _ x2.live.2] at z; exact y2 z
  · rw [l4, (q j (by omega)).2, ho _ (by rw [(x4 j (by omega)).1.2.2.1]; decide)]; exact y3 j (by omega)
theorem psR.fr {h h' : hp_T} {σ σ' : sg_T} {p L : Nat} {o o' : ow_T} (x : psR h σ p L) (y : owP o h σ p L) (f : Fr h h') (S : ∀ b, ownK (hK h b) = true → (o b).1 = p → sameAt h h' b) (ho : ∀ b, hK h b ≠ 0 → o' b = o b) (e : sPg σ σ' p) : psR h' σ' p L ∧ owP o' h' σ' p L := by
  refine x.fr2 y f (S L (by rw [x.1.1]; rfl) y.1) ?_ (fun j hj => S _ (by rw [(x.2 j hj).1.2.2.1]; rfl) (by rw [y.2.2 j hj])) ho (e.1 2 (by omega) (by omega)) (fun k a b => e.2.1 k (by omega) b) e.2.2.1
  rcases x.1.2.1.row with z | z
  · exact f.2.2 _ z
  · rw [x.1.1] at z; exact S _ (by rw [z]; rfl) (y.2.1 z)
theorem bsR.fr2 {h h' : hp_T} {σ σ' : sg_T} {p L : Nat} {o o' : ow_T} (x : bsR h σ p L) (y : owB o h σ p L) (f : Fr h h') (sL : sameAt h h' L) (sD : sameAt h h' (lda h L)) (sJ : ∀ j, j < bN σ p → sameAt h h' (lel h L j)) (ho : ∀ b, hK h b ≠ 0 → o' b = o b) (eN : σ' 3 p = σ 3 p) (e4 : ∀ k, 19 ≤ k → k ≤ 25 → ∀ i, i < 20 → σ' k (20 * p + i) = σ k (20 * p + i)) : bsR h' σ' p L ∧ owB o' h' σ' p L := by
  obtain ⟨⟨x1, x2, x3, x8⟩, x4⟩ := x
  obtain ⟨y1, y2, y3⟩ := y
  have eN : bN σ' p = bN σ p := by unfold bN; rw [eN]
  obtain ⟨l1, l2, l3, l4⟩ := x2.same sL sD f.1 f.2.1
  refine ⟨⟨⟨sL.1.trans x1, l1, by rw [l2, eN]; exact x3, by rw [eN]; exact x8⟩, fun j hj => ?_⟩, ⟨?_, fun z => ?_, fun j hj => ?_⟩⟩
  · rw [l4]; exact (x4 j (by omega)).fr f (sJ j (by omega)) (fun k a b => e4 k a b j (by omega))
  · rw [ho L x2.live.1]; exact y1
  · rw [l3, ho _ x2.live.2]; rw [l3, f.1 _ x2.live.2] at z; exact y2 z
  · rw [l4, ho _ (by rw [(x4 j (by omega)).1.1]; decide)]; exact y3 j (by omega)
theorem bsR.fr {h h' : hp_T} {σ σ' : sg_T} {p L : Nat} {o o' : ow_T} (x : bsR h σ p L) (y : owB o h σ p L) (f : Fr h h') (S : ∀ b, ownK (hK h b) = true → (o b).1 = p → sameAt h h' b) (ho : ∀ b, hK h b ≠ 0 → o' b = o b) (e : sPg σ σ' p) : bsR h' σ' p L ∧ owB o' h' σ' p L := by
  refine x.fr2 y f (S L (by rw [x.1.1]; rfl) y.1) ?_ (fun j hj => S _ (by rw [(x.2 j hj).1.1]; rfl) (by rw [y.2.2 j hj])) ho (e.1 3 (by omega) (by omega)) (fun k a b => e.2.2.2 k a b)
  rcases x.1.2.1.row with z | z
  · exact f.2.2 _ z
  · rw [x.1.1] at z; exact S _ (by rw [z]; rfl) (y.2.1 z)
/-- page p of the state -/
def pgR (h : hp_T) (σ : sg_T) (o : ow_T) (p a : Nat) : Prop := ((hK h a = 5 ∧ (o a).1 = p) ∧ hI h 322 a 0 = σ 1 p ∧ hI h 323 a 0 = σ 4 p ∧ prR h σ p (hR h 324 a 0)) ∧
  (hR h 320 a 0 = some (dR h 320 a) ∧ psR h σ p (dR h 320 a) ∧ owP o h σ p (dR h 320 a)) ∧ hR h 321 a 0 = some (dR h 321 a) ∧ bsR h σ p (dR h 321 a) ∧ owB o h σ p (dR h 321 a)
theorem pgR.fr {h h' : hp_T} {σ σ' : sg_T} {p a : Nat} {o o' : ow_T} (x : pgR h σ o p a) (f : Fr h h') (S : ∀ b, ownK (hK h b) = true → (o b).1 = p → sameAt h h' b) (ho : ∀ b, hK h b ≠ 0 → o' b = o b) (e : sPg σ σ' p) : pgR h' σ' o' p a := by
  obtain ⟨⟨⟨x1, x2⟩, x3, x4, x5⟩, ⟨x6, x7, x8⟩, x9, x10, x11⟩ := x
  have s := S a (by rw [x1]; rfl) x2
  have d0 := s.dR 320
  have d1 := s.dR 321
  obtain ⟨s1, s2, s3⟩ := s
  obtain ⟨u1, u2⟩ := x7.fr x8 f S ho e
  obtain ⟨v1, v2⟩ := x10.fr x11 f S ho e
  refine ⟨⟨⟨s1.trans x1, by rw [ho a (by rw [x1]; decide)]; exact x2⟩, ?_, ?_, ?_⟩, ⟨?_, ?_, ?_⟩, ?_, ?_, ?_⟩
  · rw [(s3 _ _).1, e.1 1 (by omega) (by omega)]; exact x3
  · rw [(s3 _ _).1, e.1 4 (by omega) (by omega)]; exact x4
  · rw [(s3 _ _).2]; exact x5.fr f (fun k a b => e.1 k (by omega) b) (fun i hi => e.2.1 8 (by omega) (by omega) i hi)
  · rw [d0, (s3 _ _).2]; exact x6
  · rw [d0]; exact u1
  · rw [d0]; exact u2
  · rw [d1, (s3 _ _).2]; exact x9
  · rw [d1]; exact v1
  · rw [d1]; exact v2
theorem pgR.ok {h : hp_T} {σ : sg_T} {p a : Nat} {o : ow_T} (x : pgR h σ o p a) (w : wfP σ p) : pgOK h a := by
  obtain ⟨⟨⟨x1, x2⟩, x3, x4, x5⟩, ⟨x6, ⟨⟨x7, x12, x13, x14⟩, x15⟩, x8⟩, x9, ⟨⟨x10, x16, x17, x18⟩, x19⟩, x11⟩ := x
  refine ⟨x1, ⟨x6, x7, x12, by show lsz _ _ ≤ 8; omega, fun j hj => ?_⟩, ⟨x9, x10, x16, by show lsz _ _ ≤ 20; omega, fun j hj => ?_⟩, by rw [x3]; exact w.2.2.1, ?_⟩
  · have hj' : j < lsz h (dR h 320 a) := hj
    exact (x15 j (by omega)).ok
  · have hj' : j < lsz h (dR h 321 a) := hj
    exact (x19 j (by omega)).ok
  · cases hr : hR h 324 a 0 with
    | none => exact Or.inl rfl
    | some r => rw [hr] at x5; exact Or.inr ⟨r, rfl, x5.2.1, x5.2.2.1⟩
def tlR (h : hp_T) (σ : sg_T) (j q : Nat) : Prop := hK h q = 9 ∧ hI h 576 q 0 = σ 27 j ∧ hI h 577 q 0 = σ 29 j ∧ hI h 578 q 0 = σ 28 j ∧ hI h 579 q 0 = σ 30 j ∧ hI h 580 q 0 = σ 31 j
def tsR (h : hp_T) (σ : sg_T) (L : Nat) : Prop := (hK h L = 21 ∧ lOK h L ∧ lsz h L = sT σ ∧ sT σ ≤ 40) ∧ ∀ j, j < sT σ → tlR h σ j (lel h L j)
theorem tsR.fr {h h' : hp_T} {σ σ' : sg_T} {L : Nat} (x : tsR h σ L) (f : Fr h h') (S : ∀ b, hK h b = 21 ∨ hK h b = 161 → sameAt h h' b) (e0 : σ' 26 0 = σ 26 0) (e : ∀ k, 27 ≤ k → k ≤ 31 → ∀ j, σ' k j = σ k j) : tsR h' σ' L := by
  obtain ⟨⟨x1, x2, x3, x4⟩, x5⟩ := x
  have eN : sT σ' = sT σ := by unfold sT; rw [e0]
  have sL : sameAt h h' L := S L (Or.inl x1)
  have sD : sameAt h h' (lda h L) := by
    rcases x2.row with z | z
    · exact f.2.2 _ z
    · rw [x1] at z; exact S _ (Or.inr z)
  obtain ⟨l1, l2, l3, l4⟩ := x2.same sL sD f.1 f.2.1
  refine ⟨⟨sL.1.trans x1, l1, by rw [l2, eN]; exact x3, by rw [eN]; exact x4⟩, fun j hj => ?_⟩
  rw [l4]
  obtain ⟨t1, t2, t3, t4, t5, t6⟩ := x5 j (by omega)
  obtain ⟨s1, s2, s3⟩ := f.2.2 (lel h L j) (by rw [t1]; rfl)
  refine ⟨s1.trans t1, ?_, ?_, ?_, ?_, ?_⟩
  · rw [(s3 _ _).1, e 27 (by omega) (by omega)]; exact t2
  · rw [(s3 _ _).1, e 29 (by omega) (by omega)]; exact t3
  · rw [(s3 _ _).1, e 28 (by omega) (by omega)]; exact t4
  · rw [(s3 _ _).1, e 30 (by omega) (by omega)]; exact t5
  · rw [(s3 _ _).1, e 31 (by omega) (by omega)]; exact t6
def psL (h : hp_T) (σ : sg_T) (L : Nat) : Prop := (hK h L = 20 ∧ lOK h L ∧ lsz h L = sN σ ∧ sN σ ≤ 8)
/-- the house holds the state σ -/
def RC (h : hp_T) (c : Nat) (σ : sg_T) : Prop := (hK h c = 10 ∧ hK h (hC h 0) = 190 ∧ hN h (hC h 0) = 0) ∧ (hI h 642 c 0 = σ 13 0 ∧ hI h 643 c 0 = σ 32 0 ∧ hI h 644 c 0 = σ 33 0) ∧
  (hR h 640 c 0 = some (dR h 640 c) ∧ psL h σ (dR h 640 c) ∧ ∃ o : ow_T, ∀ p, p < sN σ → pgR h σ o p (lel h (dR h 640 c) p)) ∧ hR h 641 c 0 = some (dR h 641 c) ∧ tsR h σ (dR h 641 c)
theorem RC.cp {h : hp_T} {c : Nat} {σ : sg_T} (x : RC h c σ) (hW : WF σ) : cpOK h c := by
  obtain ⟨⟨x1, -⟩, -, ⟨x2, ⟨x3, x4, x5, x6⟩, o, x7⟩, x8, ⟨x9, x10, x11, x12⟩, x13⟩ := x
  refine ⟨x1, ⟨x2, x3, x4, by show lsz _ _ ≤ 8; omega, fun j hj => ?_⟩, x8, x9, x10, by show lsz _ _ ≤ 40; omega, fun j hj => ?_⟩
  · have hj' : j < lsz h (dR h 640 c) := hj
    exact (x7 j (by omega)).ok (hW.2.1 j (by omega))
  · have hj' : j < lsz h (dR h 641 c) := hj
    exact (x13 j (by omega)).1
/-- scalars and tellings of two states agree -/
def sSc (σ σ' : sg_T) : Prop := σ' 0 0 = σ 0 0 ∧ σ' 13 0 = σ 13 0 ∧ σ' 26 0 = σ 26 0 ∧ σ' 32 0 = σ 32 0 ∧ σ' 33 0 = σ 33 0 ∧ ∀ k, 27 ≤ k → k ≤ 31 → ∀ j, σ' k j = σ k j
theorem psL.fr {h h' : hp_T} {σ σ' : sg_T} {L : Nat} (x : psL h σ L) (f : Fr h h') (S : ∀ b, hK h b = 20 ∨ hK h b = 160 → sameAt h h' b) (e0 : σ' 0 0 = σ 0 0) : psL h' σ' L ∧ ∀ i, lel h' L i = lel h L i := by
  obtain ⟨x1, x2, x3, x4⟩ := x
  have eN : sN σ' = sN σ := by unfold sN; rw [e0]
  have sL : sameAt h h' L := S L (Or.inl x1)
  have sD : sameAt h h' (lda h L) := by
    rcases x2.row with z | z
    · exact f.2.2 _ z
    · rw [x1] at z; exact S _ (Or.inr z)
  obtain ⟨l1, l2, l3, l4⟩ := x2.same sL sD f.1 f.2.1
  exact ⟨⟨sL.1.trans x1, l1, by rw [l2, eN]; exact x3, by rw [eN]; exact x4⟩, l4⟩
/-- a page of the house has changed -/
theorem RC.page {h h' : hp_T} {c : Nat} {σ σ' : sg_T} (x : RC h c σ) (p0 : Nat) (f : Fr h h') (S1 : ∀ b, topK (hK h b) = true → sameAt h h' b) (e : sSc σ σ') (e2 : ∀ p, p < sN σ → ¬ p = p0 → sPg σ σ' p)
    (H : ∀ o : ow_T, (∀ p, p < sN σ → pgR h σ o p (lel h (dR h 640 c) p)) → ∃ o' : ow_T, (∀ b, hK h b ≠ 0 → o' b = o b) ∧ (∀ b, ownK (hK h b) = true → ¬ (o b).1 = p0 → sameAt h h' b) ∧ pgR h' σ' o' p0 (lel h (dR h 640 c) p0)) : RC h' c σ' := by
  obtain ⟨⟨x1, x2, x3⟩, ⟨y1, y2, y3⟩, ⟨z1, z2, o, z3⟩, w1, w2⟩ := x
  obtain ⟨e0, e13, e26, e32, e33, eT⟩ := e
  obtain ⟨o', ho, hS, hp0⟩ := H o z3
  have s := S1 c (by rw [x1]; rfl)
  have d0 := s.dR 640
  have d1 := s.dR 641
  obtain ⟨s1, s2, s3⟩ := s
  obtain ⟨u1, u2⟩ := z2.fr f (fun b hb => S1 b (by rcases hb with e | e <;> rw [e] <;> rfl)) e0
  have cs := f.2.2 (hC h 0) (by rw [x2]; rfl)
  have eN : sN σ' = sN σ := by unfold sN; rw [e0]
  refine ⟨⟨s1.trans x1, by rw [f.2.1, cs.1]; exact x2, by rw [f.2.1, cs.2.1]; exact x3⟩, ⟨?_, ?_, ?_⟩, ⟨?_, ?_, o', fun p hp => ?_⟩, ?_, ?_⟩
  · rw [(s3 _ _).1, e13]; exact y1
  · rw [(s3 _ _).1, e32]; exact y2
  · rw [(s3 _ _).1, e33]; exact y3
  · rw [d0, (s3 _ _).2]; exact z1
  · rw [d0]; exact u1
  · rw [d0, u2]
    by_cases c0 : p = p0
    · rw [c0]; exact hp0
    · exact (z3 p (by omega)).fr f (fun b h1 h2 => hS b h1 (by rw [h2]; exact c0)) ho (e2 p (by omega) c0)
  · rw [d1, (s3 _ _).2]; exact w1
  · rw [d1]; exact w2.fr f (fun b hb => S1 b (by rcases hb with e | e <;> rw [e] <;> rfl)) e26 eT
/-- nothing of the house has changed -/
def Cl (h h' : hp_T) : Prop := (∀ b, hK h b ≠ 0 → mK (hK h b) = false → sameAt h h' b) ∧ (∀ b, hK h b ≠ 0 → hK h' b = hK h b) ∧ ∀ i, hC h' i = hC h i
theorem Cl.of_ext {h h' : hp_T} (e : Ext h h') : Cl h h' := ⟨fun b hb _ => e.1 b hb, fun b hb => (e.1 b hb).1, e.2⟩
theorem Cl.of_cfr {h h' : hp_T} (e : CFr h h') : Cl h h' := ⟨fun b _ hm => ⟨(e.1 b).1, (e.1 b).2.1, fun g i => ⟨e.2.2 b (mK_0 hm) g i, (e.1 b).2.2 g i⟩⟩, fun b _ => (e.1 b).1, e.2.1⟩
theorem own_m {k : Nat} (h : ownK k = true) : mK k = false := by
  unfold ownK at h
  simp only [Bool.or_eq_true, beq_iff_eq] at h
  rcases h with (((((rfl | rfl) | rfl) | rfl) | rfl) | rfl) | rfl <;> decide
theorem im_m {k : Nat} (h : imK k = true) : mK k = false := by
  unfold imK at h
  simp only [Bool.or_eq_true, beq_iff_eq] at h
  rcases h with ((((rfl | rfl) | rfl) | rfl) | rfl) | rfl <;> decide
theorem top_m {k : Nat} (h : topK k = true) : mK k = false := by
  unfold topK at h
  simp only [Bool.or_eq_true, beq_iff_eq] at h
  rcases h with (((rfl | rfl) | rfl) | rfl) | rfl <;> decide
theorem Cl.fr {h h' : hp_T} (e : Cl h h') : Fr h h' := ⟨e.2.1, e.2.2, fun b hb => e.1 b (imK_0 hb) (im_m hb)⟩
theorem RC.cl {h h' : hp_T} {c : Nat} {σ : sg_T} (x : RC h c σ) (e : Cl h h') : RC h' c σ := by
  have f := e.fr
  have S1 : ∀ b, topK (hK h b) = true → sameAt h h' b := fun b hb => e.1 b (topK_0 hb) (top_m hb)
  obtain ⟨⟨x1, x2, x3⟩, ⟨y1, y2, y3⟩, ⟨z1, z2, o, z3⟩, w1, w2⟩ := x
  have s := S1 c (by rw [x1]; rfl)
  have d0 := s.dR 640
  have d1 := s.dR 641
  obtain ⟨s1, s2, s3⟩ := s
  obtain ⟨u1, u2⟩ := z2.fr f (fun b hb => S1 b (by rcases hb with e | e <;> rw [e] <;> rfl)) rfl
  have cs := f.2.2 (hC h 0) (by rw [x2]; rfl)
  refine ⟨⟨s1.trans x1, by rw [f.2.1, cs.1]; exact x2, by rw [f.2.1, cs.2.1]; exact x3⟩, ⟨?_, ?_, ?_⟩, ⟨?_, ?_, o, fun p hp => ?_⟩, ?_, ?_⟩
  · rw [(s3 _ _).1]; exact y1
  · rw [(s3 _ _).1]; exact y2
  · rw [(s3 _ _).1]; exact y3
  · rw [d0, (s3 _ _).2]; exact z1
  · rw [d0]; exact u1
  · rw [d0, u2]
    exact (z3 p hp).fr f (fun b h1 _ => e.1 b (ownK_0 h1) (own_m h1)) (fun _ _ => rfl) sPg.rfl
  · rw [d1, (s3 _ _).2]; exact w1
  · rw [d1]; exact w2.fr f (fun b hb => S1 b (by rcases hb with e | e <;> rw [e] <;> rfl)) rfl (fun _ _ _ _ => rfl)
/-- a number of the house has changed -/
theorem RC.num {h : hp_T} {c : Nat} {σ : sg_T} (x : RC h c σ) {f k : Nat} (hf : (f = 642 ∧ k = 13) ∨ (f = 643 ∧ k = 32) ∨ (f = 644 ∧ k = 33)) (v : Int32) : RC (hsI h f c 0 v) c (su σ k 0 v) := by
  obtain ⟨⟨x1, x2, x3⟩, ⟨y1, y2, y3⟩, ⟨z1, z2, o, z3⟩, w1, w2⟩ := x
  have sc : ∀ b, ¬ hK h b = 10 → sameAt h (hsI h f c 0 v) b := fun b hb => sameAt.sI (fun e => hb (by rw [e]; exact x1))
  have fr : Fr h (hsI h f c 0 v) := ⟨fun _ _ => rfl, fun _ => rfl, fun b hb => sc b (fun e => by rw [e] at hb; cases hb)⟩
  have sn : ∀ L kd, hK h L = kd → ¬ kd = 10 → sameAt h (hsI h f c 0 v) L := fun L kd e n => sc L (by rw [e]; exact n)
  have row : ∀ L, lOK h L → sameAt h (hsI h f c 0 v) (lda h L) := fun L kl => by
    rcases kl.row with z | z
    · exact fr.2.2 _ z
    · exact sc _ (fun e => by rcases kl.1 with i | i | i | i <;> omega)
  have eP : ∀ p, sPg σ (su σ k 0 v) p := fun p => by
    refine ⟨fun j a b => ?_, fun j a b i hi => ?_, fun j a b i hi g hg => ?_, fun j a b i hi => ?_⟩ <;> rw [su_at, if_neg (by omega)]
  have e0 : sN (su σ k 0 v) = sN σ := by unfold sN; rw [su_at, if_neg (by omega)]
  have eT : sT (su σ k 0 v) = sT σ := by unfold sT; rw [su_at, if_neg (by omega)]
  obtain ⟨p1, p2, p3, p4⟩ := z2
  obtain ⟨l1, l2, l3, l4⟩ := p2.same (sn _ _ p1 (by decide)) (row _ p2) fr.1 fr.2.1
  obtain ⟨⟨q1, q2, q3, q4⟩, q5⟩ := w2
  obtain ⟨m1, m2, m3, m4⟩ := q2.same (sn _ _ q1 (by decide)) (row _ q2) fr.1 fr.2.1
  refine ⟨⟨x1, x2, x3⟩, ⟨?_, ?_, ?_⟩, ⟨z1, ⟨p1, l1, by rw [e0]; exact l2.trans p3, by rw [e0]; exact p4⟩, o, fun p hp => ?_⟩, w1, ⟨q1, m1, by rw [eT]; exact m2.trans q3, by rw [eT]; exact q4⟩, fun j hj => ?_⟩
  · rw [hI_sI, su_at]
    by_cases c1 : f = 642
    · rw [if_pos ⟨c1.symm, rfl, rfl⟩, if_pos (by omega)]
    · rw [if_neg (by omega), if_neg (by omega)]; exact y1
  · rw [hI_sI, su_at]
    by_cases c1 : f = 643
    · rw [if_pos ⟨c1.symm, rfl, rfl⟩, if_pos (by omega)]
    · rw [if_neg (by omega), if_neg (by omega)]; exact y2
  · rw [hI_sI, su_at]
    by_cases c1 : f = 644
    · rw [if_pos ⟨c1.symm, rfl, rfl⟩, if_pos (by omega)]
    · rw [if_neg (by omega), if_neg (by omega)]; exact y3
  · have ed : lel (hsI h f c 0 v) (dR (hsI h f c 0 v) 640 c) p = lel h (dR h 640 c) p := l4 p
    rw [ed]
    exact (z3 p (by omega)).fr fr (fun b hb _ => sc b (fun e => by rw [e] at hb; cases hb)) (fun _ _ => rfl) (eP p)
  · have ed : lel (hsI h f c 0 v) (dR (hsI h f c 0 v) 641 c) j = lel h (dR h 641 c) j := m4 j
    rw [ed]
    obtain ⟨t1, t2, t3, t4, t5, t6⟩ := q5 j (by omega)
    have nc : ¬ lel h (dR h 641 c) j = c := fun e => by rw [e, x1] at t1; cases t1
    unfold tlR
    simp only [su_at, hI_sI, nc, false_and, and_false, if_false]
    refine ⟨t1, ?_, ?_, ?_, ?_, ?_⟩ <;> (rw [if_neg (by omega)]; assumption)
