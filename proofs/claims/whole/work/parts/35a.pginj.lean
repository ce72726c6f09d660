/-- no two panels of a page share a row of faces, no two of its balloons are one -/
def pgInj (h0 h : hp_T) (q n m : Nat) : Prop := (∀ i j, i < j → j < n → dR h 385 (lel h (dR h 320 q) i) ≠ dR h 385 (lel h (dR h 320 q) j)) ∧ (∀ i j, i < j → j < m → lel h (dR h 321 q) i ≠ lel h (dR h 321 q) j) ∧ ∀ j, j < m → hK h0 (lel h (dR h 321 q) j) = 0
theorem pgInj_0 (h0 h : hp_T) (q : Nat) : pgInj h0 h q 0 0 := ⟨fun i j _ h => absurd h (Nat.not_lt_zero j), fun i j _ h => absurd h (Nat.not_lt_zero j), fun j h => absurd h (Nat.not_lt_zero j)⟩
theorem pgInj.ext {h h' h'' : hp_T} {a q n m : Nat} (i : pgInj h h' q n m) (k : pgMir h h' a q n m) (e : Ext h' h'') : pgInj h h'' q n m := by
  obtain ⟨⟨a1, a2, a3, a4, a5⟩, ⟨b1, b2, b3, b4⟩, ⟨c1, c2, c3, c4⟩⟩ := k
  have s := e.o q (by rw [a2]; rfl)
  have d0 := s.dR 320
  have d1 := s.dR 321
  obtain ⟨x1, x2⟩ := b3.ext e
  obtain ⟨y1, y2⟩ := c3.ext e
  refine ⟨fun x y h1 h2 => ?_, fun x y h1 h2 => ?_, fun x h1 => ?_⟩
  · rw [d0, x2, x2, ((b4 x (by omega)).1.ext e).2.2.1, ((b4 y h2).1.ext e).2.2.1]
    exact i.1 x y h1 h2
  · rw [d1, y2, y2]
    exact i.2.1 x y h1 h2
  · rw [d1, y2]; exact i.2.2 x h1
theorem pgInj.addP {h h' h'' : hp_T} {a q n m v : Nat} (i : pgInj h h' q n m) (k : pgMir h h' a q n m) (hn : n < 40) (pv : pnOK h' v) (hv : ∀ j, j < n → dR h' 385 (lel h' (dR h' 320 q) j) ≠ dR h' 385 v) (z : LAdd h' h'' (dR h' 320 q) v) : pgInj h h'' q (n + 1) m := by
  obtain ⟨⟨a1, a2, a3, a4, a5⟩, ⟨b1, b2, b3, b4⟩, ⟨c1, c2, c3, c4⟩⟩ := k
  have ko : objK (hK h' v) := by rw [pv.1.1]; simp [objK]
  have il : isL (hK h' (dR h' 320 q)) := by rw [b2]; simp [isL]
  obtain ⟨y1, y2⟩ := c3.other (by rw [b2, c2]; decide) il z
  have eo := z.exo il
  have s := eo q (by rw [a2]; rfl)
  have d0 := s.dR 320
  have d1 := s.dR 321
  obtain ⟨-, -, w1, w2, w3⟩ := z.ok b3.2.1 (by have := b3.2.2.1; omega) ko
  have es := b3.2.2.1
  rw [es] at w1 w2
  have dd : ∀ j, j < n → dR h'' 385 (lel h'' (dR h'' 320 q) j) = dR h' 385 (lel h' (dR h' 320 q) j) := fun j hj => by
    rw [d0, w1 j hj]
    exact (eo _ (by rw [(b4 j hj).1.1.1]; rfl)).dR 385
  have dn : dR h'' 385 (lel h'' (dR h'' 320 q) n) = dR h' 385 v := by
    rw [d0, w2]
    exact (eo _ (by rw [pv.1.1]; rfl)).dR 385
  refine ⟨fun x y h1 h2 => ?_, fun x y h1 h2 => ?_, fun x h1 => ?_⟩
  · rw [dd x (by omega)]
    by_cases e : y = n
    · rw [e, dn]; exact hv x (by omega)
    · rw [dd y (by omega)]; exact i.1 x y h1 (by omega)
  · rw [d1, y2, y2]
    exact i.2.1 x y h1 h2
  · rw [d1, y2]; exact i.2.2 x h1
theorem pgInj.addB {h h' h'' : hp_T} {a q n m v : Nat} (i : pgInj h h' q n m) (k : pgMir h h' a q n m) (hn : m < 40) (pv : hK h' v = 2) (hv : ∀ j, j < m → lel h' (dR h' 321 q) j ≠ v) (hf : hK h v = 0) (z : LAdd h' h'' (dR h' 321 q) v) : pgInj h h'' q n (m + 1) := by
  obtain ⟨⟨a1, a2, a3, a4, a5⟩, ⟨b1, b2, b3, b4⟩, ⟨c1, c2, c3, c4⟩⟩ := k
  have ko : objK (hK h' v) := by rw [pv]; simp [objK]
  have il : isL (hK h' (dR h' 321 q)) := by rw [c2]; simp [isL]
  obtain ⟨y1, y2⟩ := b3.other (by rw [b2, c2]; decide) il z
  have eo := z.exo il
  have s := eo q (by rw [a2]; rfl)
  have d0 := s.dR 320
  have d1 := s.dR 321
  obtain ⟨-, -, w1, w2, w3⟩ := z.ok c3.2.1 (by have := c3.2.2.1; omega) ko
  have es := c3.2.2.1
  rw [es] at w1 w2
  have dd : ∀ j, j < n → dR h'' 385 (lel h'' (dR h'' 320 q) j) = dR h' 385 (lel h' (dR h' 320 q) j) := fun j hj => by
    rw [d0, y2]
    exact (eo _ (by rw [(b4 j hj).1.1.1]; rfl)).dR 385
  refine ⟨fun x y h1 h2 => ?_, fun x y h1 h2 => ?_, fun x h1 => ?_⟩
  · rw [dd x (by omega), dd y (by omega)]; exact i.1 x y h1 h2
  · rw [d1, w1 x (by omega)]
    by_cases e : y = m
    · rw [e, w2]; exact hv x (by omega)
    · rw [w1 y (by omega)]; exact i.2.1 x y h1 (by omega)
  · rw [d1]
    by_cases e : x = m
    · rw [e, w2]; exact hf
    · rw [w1 x (by omega)]; exact i.2.2 x (by omega)
