theorem objK_6 {k : Nat} (h : k = 6) : objK k := by rw [h]; simp [objK]
theorem objK_2 {k : Nat} (h : k = 2) : objK k := by rw [h]; simp [objK]
/-- a list that got one more: what has changed at most -/
theorem add_fr {h h1 h' : hp_T} {L v kd : Nat} (E : Ext h h1) (z : LAdd h1 h' L v) (kL : hK h L = kd) (k0 : kd = 22 ∨ kd = 23) (kl : lOK h L) : Fr h h' ∧ (∀ b, hK h b ≠ 0 → b ≠ L → b ≠ lda h' L → sameAt h h' b) ∧ (lda h' L = lda h L ∨ hK h (lda h' L) = 0) ∧ hK h' (lda h' L) = kd + 140 := by
  have L1 : hK h1 L = kd := E.K kL (by omega)
  have S : ∀ b, hK h b ≠ 0 → b ≠ L → b ≠ lda h' L → sameAt h h' b := fun b h0 h1' h2 => by
    have s : sameAt h h1 b := E.1 b h0
    exact s.trans (z.frame2 (by rw [s.1]; exact h0) h1' h2)
  have kr : hK h' (lda h' L) = kd + 140 := by rw [← L1]; exact z.2.2.2.2.2.2.2.2.1
  have ek : ∀ b, hK h b ≠ 0 → hK h' b = hK h b := fun b hb => ((z.1 b (by rw [(E.1 b hb).1]; exact hb)).1).trans (E.1 b hb).1
  refine ⟨⟨ek, fun i => (z.2.1 i).trans (E.2 i), fun b hb => S b (imK_0 hb) (fun e => ?_) (fun e => ?_)⟩, S, ?_, kr⟩
  · rw [e, kL] at hb; rcases k0 with i | i <;> rw [i] at hb <;> cases hb
  · have q := ek b (imK_0 hb)
    rw [e, kr] at q
    rw [e, ← q] at hb
    rcases k0 with i | i <;> rw [i] at hb <;> cases hb
  · rcases z.2.2.2.2.2.2.2.1 with e | e
    · exact Or.inl (e.trans (kl.ext E).2.2.1)
    · exact Or.inr (E.fresh e)
theorem own_row {h : hp_T} {kd b : Nat} (k0 : kd = 22 ∨ kd = 23) (e : hK h b = kd + 140) : ownK (hK h b) = true ∧ topK (hK h b) = false ∧ imK (hK h b) = false := by
  rw [e]; rcases k0 with i | i <;> rw [i] <;> exact ⟨rfl, rfl, rfl⟩
/-- a panel was added to page p0 -/
theorem RC.addPn {h h1 h' : hp_T} {c v p0 : Nat} {σ σ' : sg_T} (x : RC h c σ) (hp0 : p0 < sN σ) (E : Ext h h1) (z : LAdd h1 h' (dR h 320 (lel h (dR h 640 c) p0)) v) (n8 : pN σ p0 < 8) (F : hK h (dR h1 385 v) = 0) (hv : pnR h1 σ' (8 * p0 + pN σ p0) v) (e : sSc σ σ') (e2 : ∀ p, p < sN σ → ¬ p = p0 → sPg σ σ' p) (eN : pN σ' p0 = pN σ p0 + 1)
    (e3 : (∀ k, 1 ≤ k → k ≤ 7 → ¬ k = 2 → σ' k p0 = σ k p0) ∧ (∀ i, i < 8 → σ' 8 (8 * p0 + i) = σ 8 (8 * p0 + i)) ∧ (∀ k, 9 ≤ k → k ≤ 12 → ∀ i, i < pN σ p0 → σ' k (8 * p0 + i) = σ k (8 * p0 + i)) ∧ (∀ k, 14 ≤ k → k ≤ 18 → ∀ i, i < 8 → ∀ g, g < 12 → σ' k (12 * (8 * p0 + i) + g) = σ k (12 * (8 * p0 + i) + g)) ∧ ∀ k, 19 ≤ k → k ≤ 25 → ∀ i, i < 20 → σ' k (20 * p0 + i) = σ k (20 * p0 + i)) : RC h' c σ' := by
  have hpg : ∃ o : ow_T, pgR h σ o p0 (lel h (dR h 640 c) p0) := by
    obtain ⟨o, ho⟩ := x.2.2.1.2.2
    exact ⟨o, ho p0 hp0⟩
  obtain ⟨f, S, D, kr⟩ : Fr h h' ∧ (∀ b, hK h b ≠ 0 → b ≠ dR h 320 (lel h (dR h 640 c) p0) → b ≠ lda h' (dR h 320 (lel h (dR h 640 c) p0)) → sameAt h h' b) ∧ (lda h' (dR h 320 (lel h (dR h 640 c) p0)) = lda h (dR h 320 (lel h (dR h 640 c) p0)) ∨ hK h (lda h' (dR h 320 (lel h (dR h 640 c) p0))) = 0) ∧ hK h' (lda h' (dR h 320 (lel h (dR h 640 c) p0))) = 162 := by
    obtain ⟨o, ho⟩ := hpg
    exact add_fr E z ho.2.1.2.1.1.1 (Or.inl rfl) ho.2.1.2.1.1.2.1
  have kL : hK h (dR h 320 (lel h (dR h 640 c) p0)) = 22 := by obtain ⟨o, ho⟩ := hpg; exact ho.2.1.2.1.1.1
  have nr : ∀ b, hK h b ≠ 0 → ¬ hK h b = 22 → ¬ hK h b = 162 → sameAt h h' b := fun b h0 q1 q2 => S b h0 (fun e => q1 (e ▸ kL)) (fun e => q2 (by rw [← f.1 b h0, e]; exact kr))
  refine x.page p0 f (fun b hb => nr b (topK_0 hb) (fun e => by rw [e] at hb; cases hb) (fun e => by rw [e] at hb; cases hb)) e e2 (fun o ho => ⟨fun b => if hK h b = 0 then (p0, pN σ p0) else o b, fun b hb => if_neg hb, fun b hb ho1 => S b (ownK_0 hb) (fun e => ho1 ?_) (fun e => ?_), ?_⟩)
  · rw [e]; exact (ho p0 hp0).2.1.2.2.1
  · rcases D with D | D
    · refine ho1 ?_
      rw [e, D]
      refine (ho p0 hp0).2.1.2.2.2.1 ?_
      rw [← D, ← e, ← f.1 b (ownK_0 hb), e]; exact kr
    · exact ownK_0 hb (by rw [e]; exact D)
  · have no : ∀ b, hK h b ≠ 0 → (fun b => if hK h b = 0 then (p0, pN σ p0) else o b) b = o b := fun b hb => if_neg hb
    have nf : ∀ b, hK h b = 0 → (fun b => if hK h b = 0 then (p0, pN σ p0) else o b) b = (p0, pN σ p0) := fun b hb => if_pos hb
    generalize (fun b => if hK h b = 0 then (p0, pN σ p0) else o b) = o' at *
    obtain ⟨⟨⟨x1, x2⟩, x3, x4, x5⟩, ⟨x6, ⟨⟨x7, x8, x9, x10⟩, x11⟩, y1, y2, y3⟩, x12, x13, x14⟩ := ho p0 hp0
    generalize lel h (dR h 640 c) p0 = a at *
    have s := nr a (by rw [x1]; decide) (by rw [x1]; decide) (by rw [x1]; decide)
    have d0 := s.dR 320
    have d1 := s.dR 321
    obtain ⟨s1, s2, s3⟩ := s
    obtain ⟨e31, e32, e33, e34, e35⟩ := e3
    obtain ⟨g1, g2, g3, g4⟩ := x8.ext E
    have kv1 := hv.1.1
    obtain ⟨m1, m2, m3, m4, m5⟩ := z.ok g1 (by omega) (objK_6 kv1)
    rw [g2, x9] at m2 m3 m4
    have row : sameAt h h' (lda h (dR h 321 a)) := by
      rcases x13.1.2.1.row with w | w
      · exact f.2.2 _ w
      · rw [x13.1.1] at w; exact nr _ (by rw [w]; decide) (by rw [w]; decide) (by rw [w]; decide)
    obtain ⟨v1, v2⟩ := x13.fr2 (o' := o') (σ' := σ') x14 f (nr _ x13.1.2.1.live.1 (by rw [x13.1.1]; decide) (by rw [x13.1.1]; decide)) row (fun j hj => nr _ (by rw [(x13.2 j hj).1.1]; decide) (by rw [(x13.2 j hj).1.1]; decide) (by rw [(x13.2 j hj).1.1]; decide)) no (e31 3 (by omega) (by omega) (by omega)) e35
    have q : ∀ j, j < pN σ p0 → pnR h' σ' (8 * p0 + j) (lel h (dR h 320 a) j) ∧ dR h' 385 (lel h (dR h 320 a) j) = dR h 385 (lel h (dR h 320 a) j) := fun j hj => (x11 j hj).fr f (nr _ (by rw [(x11 j hj).1.2.2.1]; decide) (by rw [(x11 j hj).1.2.2.1]; decide) (by rw [(x11 j hj).1.2.2.1]; decide)) (fun k a b => e33 k a b j hj) (fun g hg k a b => e34 k a b j (by omega) g hg)
    have f1 : Fr h1 h' := by
      refine ⟨fun b hb => (z.1 b hb).1, z.2.1, fun b hb => z.frame (imK_0 hb) (fun e => ?_) (fun e => ?_)⟩
      · rw [e, E.K x7 (by decide)] at hb; cases hb
      · rw [e, E.K x7 (by decide)] at hb; cases hb
    have qv := hv.fr (σ' := σ') f1 (z.frame (by rw [hv.1.2.2.1]; decide) (fun e => by have := hv.1.2.2.1; rw [e, E.K x7 (by decide)] at this; cases this) (by rw [hv.1.2.2.1, E.K x7 (by decide)]; decide)) (fun _ _ _ => rfl) (fun _ _ _ _ _ => rfl)
    refine ⟨⟨⟨s1.trans x1, by rw [no a (by rw [x1]; decide)]; exact x2⟩, ?_, ?_, ?_⟩, ⟨?_, ⟨⟨?_, ?_, ?_, ?_⟩, fun j hj => ?_⟩, ?_, fun _ => ?_, fun j hj => ?_⟩, ?_, ?_, ?_⟩
    · rw [(s3 _ _).1, e31 1 (by omega) (by omega) (by omega)]; exact x3
    · rw [(s3 _ _).1, e31 4 (by omega) (by omega) (by omega)]; exact x4
    · rw [(s3 _ _).2]; exact x5.fr f (fun k a b => e31 k (by omega) b (by omega)) e32
    · rw [d0, (s3 _ _).2]; exact x6
    · rw [d0]; exact m5.trans (E.K x7 (by decide))
    · rw [d0]; exact m1
    · rw [d0, m2, eN]
    · omega
    · rw [d0]
      by_cases c0 : j < pN σ p0
      · rw [m3 j c0, g4]; exact (q j c0).1
      · have ej : j = pN σ p0 := by omega
        rw [ej, m4]; exact qv.1
    · rw [d0, no _ (by rw [x7]; decide)]; exact y1
    · rw [d0]
      rcases D with D | D
      · have w : hK h (lda h (dR h 320 a)) = 162 := by
          rw [← f.1 _ x8.live.2, ← D]; exact kr
        rw [D, no _ x8.live.2]; exact y2 w
      · rw [nf _ D]
    · rw [d0]
      by_cases c0 : j < pN σ p0
      · rw [m3 j c0, g4, (q j c0).2, no _ (by rw [(x11 j c0).1.2.2.1]; decide)]; exact y3 j c0
      · have ej : j = pN σ p0 := by omega
        rw [ej, m4, qv.2, nf _ F]
    · rw [d1, (s3 _ _).2]; exact x12
    · rw [d1]; exact v1
    · rw [d1]; exact v2
/-- a balloon was added to page p0 -/
theorem RC.addBl {h h1 h' : hp_T} {c v p0 : Nat} {σ σ' : sg_T} (x : RC h c σ) (hp0 : p0 < sN σ) (E : Ext h h1) (z : LAdd h1 h' (dR h 321 (lel h (dR h 640 c) p0)) v) (n8 : bN σ p0 < 20) (F : hK h v = 0) (hv : blR h1 σ' (20 * p0 + bN σ p0) v) (e : sSc σ σ') (e2 : ∀ p, p < sN σ → ¬ p = p0 → sPg σ σ' p) (eN : bN σ' p0 = bN σ p0 + 1)
    (e3 : (∀ k, 1 ≤ k → k ≤ 7 → ¬ k = 3 → σ' k p0 = σ k p0) ∧ (∀ k, 8 ≤ k → k ≤ 12 → ∀ i, i < 8 → σ' k (8 * p0 + i) = σ k (8 * p0 + i)) ∧ (∀ k, 14 ≤ k → k ≤ 18 → ∀ i, i < 8 → ∀ g, g < 12 → σ' k (12 * (8 * p0 + i) + g) = σ k (12 * (8 * p0 + i) + g)) ∧ ∀ k, 19 ≤ k → k ≤ 25 → ∀ i, i < bN σ p0 → σ' k (20 * p0 + i) = σ k (20 * p0 + i)) : RC h' c σ' := by
  have hpg : ∃ o : ow_T, pgR h σ o p0 (lel h (dR h 640 c) p0) := by
    obtain ⟨o, ho⟩ := x.2.2.1.2.2
    exact ⟨o, ho p0 hp0⟩
  obtain ⟨f, S, D, kr⟩ : Fr h h' ∧ (∀ b, hK h b ≠ 0 → b ≠ dR h 321 (lel h (dR h 640 c) p0) → b ≠ lda h' (dR h 321 (lel h (dR h 640 c) p0)) → sameAt h h' b) ∧ (lda h' (dR h 321 (lel h (dR h 640 c) p0)) = lda h (dR h 321 (lel h (dR h 640 c) p0)) ∨ hK h (lda h' (dR h 321 (lel h (dR h 640 c) p0))) = 0) ∧ hK h' (lda h' (dR h 321 (lel h (dR h 640 c) p0))) = 163 := by
    obtain ⟨o, ho⟩ := hpg
    exact add_fr E z ho.2.2.2.1.1.1 (Or.inr rfl) ho.2.2.2.1.1.2.1
  have kL : hK h (dR h 321 (lel h (dR h 640 c) p0)) = 23 := by obtain ⟨o, ho⟩ := hpg; exact ho.2.2.2.1.1.1
  have nr : ∀ b, hK h b ≠ 0 → ¬ hK h b = 23 → ¬ hK h b = 163 → sameAt h h' b := fun b h0 q1 q2 => S b h0 (fun e => q1 (e ▸ kL)) (fun e => q2 (by rw [← f.1 b h0, e]; exact kr))
  refine x.page p0 f (fun b hb => nr b (topK_0 hb) (fun e => by rw [e] at hb; cases hb) (fun e => by rw [e] at hb; cases hb)) e e2 (fun o ho => ⟨fun b => if hK h b = 0 then (p0, bN σ p0) else o b, fun b hb => if_neg hb, fun b hb ho1 => S b (ownK_0 hb) (fun e => ho1 ?_) (fun e => ?_), ?_⟩)
  · rw [e]; exact (ho p0 hp0).2.2.2.2.1
  · rcases D with D | D
    · refine ho1 ?_
      rw [e, D]
      refine (ho p0 hp0).2.2.2.2.2.1 ?_
      rw [← D, ← e, ← f.1 b (ownK_0 hb), e]; exact kr
    · exact ownK_0 hb (by rw [e]; exact D)
  · have no : ∀ b, hK h b ≠ 0 → (fun b => if hK h b = 0 then (p0, bN σ p0) else o b) b = o b := fun b hb => if_neg hb
    have nf : ∀ b, hK h b = 0 → (fun b => if hK h b = 0 then (p0, bN σ p0) else o b) b = (p0, bN σ p0) := fun b hb => if_pos hb
    generalize (fun b => if hK h b = 0 then (p0, bN σ p0) else o b) = o' at *
    obtain ⟨⟨⟨x1, x2⟩, x3, x4, x5⟩, ⟨x12, x13, x14⟩, x6, ⟨⟨x7, x8, x9, x10⟩, x11⟩, y1, y2, y3⟩ := ho p0 hp0
    generalize lel h (dR h 640 c) p0 = a at *
    have s := nr a (by rw [x1]; decide) (by rw [x1]; decide) (by rw [x1]; decide)
    have d0 := s.dR 320
    have d1 := s.dR 321
    obtain ⟨s1, s2, s3⟩ := s
    obtain ⟨e31, e32, e33, e34⟩ := e3
    obtain ⟨g1, g2, g3, g4⟩ := x8.ext E
    obtain ⟨m1, m2, m3, m4, m5⟩ := z.ok g1 (by omega) (objK_2 hv.1.1)
    rw [g2, x9] at m2 m3 m4
    have row : sameAt h h' (lda h (dR h 320 a)) := by
      rcases x13.1.2.1.row with w | w
      · exact f.2.2 _ w
      · rw [x13.1.1] at w; exact nr _ (by rw [w]; decide) (by rw [w]; decide) (by rw [w]; decide)
    obtain ⟨v1, v2⟩ := x13.fr2 (o' := o') (σ' := σ') x14 f (nr _ x13.1.2.1.live.1 (by rw [x13.1.1]; decide) (by rw [x13.1.1]; decide)) row (fun j hj => nr _ (by rw [(x13.2 j hj).1.2.2.1]; decide) (by rw [(x13.2 j hj).1.2.2.1]; decide) (by rw [(x13.2 j hj).1.2.2.1]; decide)) no (e31 2 (by omega) (by omega) (by omega)) (fun k a b => e32 k (by omega) b) e33
    have q : ∀ j, j < bN σ p0 → blR h' σ' (20 * p0 + j) (lel h (dR h 321 a) j) := fun j hj => (x11 j hj).fr f (nr _ (by rw [(x11 j hj).1.1]; decide) (by rw [(x11 j hj).1.1]; decide) (by rw [(x11 j hj).1.1]; decide)) (fun k a b => e34 k a b j hj)
    have f1 : Fr h1 h' := by
      refine ⟨fun b hb => (z.1 b hb).1, z.2.1, fun b hb => z.frame (imK_0 hb) (fun e => ?_) (fun e => ?_)⟩
      · rw [e, E.K x7 (by decide)] at hb; cases hb
      · rw [e, E.K x7 (by decide)] at hb; cases hb
    have qv := hv.fr (σ' := σ') f1 (z.frame (by rw [hv.1.1]; decide) (fun e => by have := hv.1.1; rw [e, E.K x7 (by decide)] at this; cases this) (by rw [hv.1.1, E.K x7 (by decide)]; decide)) (fun _ _ _ => rfl)
    refine ⟨⟨⟨s1.trans x1, by rw [no a (by rw [x1]; decide)]; exact x2⟩, ?_, ?_, ?_⟩, ⟨?_, ?_, ?_⟩, ?_, ⟨⟨?_, ?_, ?_, ?_⟩, fun j hj => ?_⟩, ?_, fun _ => ?_, fun j hj => ?_⟩
    · rw [(s3 _ _).1, e31 1 (by omega) (by omega) (by omega)]; exact x3
    · rw [(s3 _ _).1, e31 4 (by omega) (by omega) (by omega)]; exact x4
    · rw [(s3 _ _).2]; exact x5.fr f (fun k a b => e31 k (by omega) b (by omega)) (e32 8 (by omega) (by omega))
    · rw [d0, (s3 _ _).2]; exact x12
    · rw [d0]; exact v1
    · rw [d0]; exact v2
    · rw [d1, (s3 _ _).2]; exact x6
    · rw [d1]; exact m5.trans (E.K x7 (by decide))
    · rw [d1]; exact m1
    · rw [d1, m2, eN]
    · omega
    · rw [d1]
      by_cases c0 : j < bN σ p0
      · rw [m3 j c0, g4]; exact q j c0
      · have ej : j = bN σ p0 := by omega
        rw [ej, m4]; exact qv
    · rw [d1, no _ (by rw [x7]; decide)]; exact y1
    · rw [d1]
      rcases D with D | D
      · have w : hK h (lda h (dR h 321 a)) = 163 := by
          rw [← f.1 _ x8.live.2, ← D]; exact kr
        rw [D, no _ x8.live.2]; exact y2 w
      · rw [nf _ D]
    · rw [d1]
      by_cases c0 : j < bN σ p0
      · rw [m3 j c0, g4, no _ (by rw [(x11 j c0).1.1]; decide)]; exact y3 j c0
      · have ej : j = bN σ p0 := by omega
        rw [ej, m4, nf _ F]
