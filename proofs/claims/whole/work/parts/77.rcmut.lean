theorem LAdd.frame2 {h h' : hp_T} {a v b : Nat} (z : LAdd h h' a v) (hb : hK h b ≠ 0) (nb : b ≠ a) (n2 : b ≠ lda h' a) : sameAt h h' b := ⟨(z.1 b hb).1, (z.1 b hb).2, fun g i => ⟨z.2.2.2.1 b hb nb g i, z.2.2.2.2.1 b hb nb n2 g i⟩⟩
theorem objK_9 {k : Nat} (h : k = 9) : objK k := by rw [h]; simp [objK]
/-- a telling was told -/
theorem RC.tell {h h' : hp_T} {c v : Nat} {σ σ' : sg_T} (x : RC h c σ) (z : LAdd h h' (dR h 641 c) v) (n40 : sT σ < 40) (hv : tlR h σ' (sT σ) v) (e0 : σ' 0 0 = σ 0 0 ∧ σ' 13 0 = σ 13 0 ∧ σ' 32 0 = σ 32 0 ∧ σ' 33 0 = σ 33 0) (e26 : sT σ' = sT σ + 1) (e : ∀ k, 27 ≤ k → k ≤ 31 → ∀ j, j < sT σ → σ' k j = σ k j) (eP : ∀ p, sPg σ σ' p) : RC h' c σ' := by
  obtain ⟨⟨x1, x2, x3⟩, ⟨y1, y2, y3⟩, ⟨z1, z2, o, z3⟩, w1, ⟨w2, w3, w4, w5⟩, w6⟩ := x
  obtain ⟨e0, e13, e32, e33⟩ := e0
  have ne : ∀ b, hK h b ≠ 0 → ¬ hK h b = 21 → ¬ hK h b = 161 → sameAt h h' b := fun b h0 h1 h2 => z.frame h0 (fun e => h1 (e ▸ w2)) (by rw [w2]; exact h2)
  have f : Fr h h' := ⟨fun b hb => (z.1 b hb).1, z.2.1, fun b hb => ne b (imK_0 hb) (fun e => by rw [e] at hb; cases hb) (fun e => by rw [e] at hb; cases hb)⟩
  have eN : sN σ' = sN σ := by unfold sN; rw [e0]
  have s := ne c (by rw [x1]; decide) (by rw [x1]; decide) (by rw [x1]; decide)
  have d0 := s.dR 640
  have d1 := s.dR 641
  obtain ⟨s1, s2, s3⟩ := s
  obtain ⟨u1, u2⟩ := z2.fr (σ' := σ') f (fun b hb => ne b (by rcases hb with e | e <;> rw [e] <;> decide) (by rcases hb with e | e <;> rw [e] <;> decide) (by rcases hb with e | e <;> rw [e] <;> decide)) e0
  have cs := f.2.2 (hC h 0) (by rw [x2]; rfl)
  obtain ⟨m1, m2, m3, m4, m5⟩ := z.ok w3 (by omega) (objK_9 hv.1)
  refine ⟨⟨s1.trans x1, by rw [f.2.1, cs.1]; exact x2, by rw [f.2.1, cs.2.1]; exact x3⟩, ⟨?_, ?_, ?_⟩, ⟨?_, ?_, o, fun p hp => ?_⟩, ?_, ⟨?_, ?_, ?_, ?_⟩, fun j hj => ?_⟩
  · rw [(s3 _ _).1, e13]; exact y1
  · rw [(s3 _ _).1, e32]; exact y2
  · rw [(s3 _ _).1, e33]; exact y3
  · rw [d0, (s3 _ _).2]; exact z1
  · rw [d0]; exact u1
  · rw [d0, u2]
    exact (z3 p (by omega)).fr f (fun b h1 _ => ne b (ownK_0 h1) (fun e => by rw [e] at h1; cases h1) (fun e => by rw [e] at h1; cases h1)) (fun _ _ => rfl) (eP p)
  · rw [d1, (s3 _ _).2]; exact w1
  · rw [d1]; exact m5.trans w2
  · rw [d1]; exact m1
  · rw [d1, m2, e26, w4]
  · omega
  · rw [d1]
    by_cases c0 : j < sT σ
    · rw [m3 j (by omega)]
      obtain ⟨t1, t2, t3, t4, t5, t6⟩ := w6 j c0
      obtain ⟨r1, r2, r3⟩ := f.2.2 (lel h (dR h 641 c) j) (by rw [t1]; rfl)
      exact ⟨r1.trans t1, by rw [(r3 _ _).1, e 27 (by omega) (by omega) j c0]; exact t2, by rw [(r3 _ _).1, e 29 (by omega) (by omega) j c0]; exact t3, by rw [(r3 _ _).1, e 28 (by omega) (by omega) j c0]; exact t4, by rw [(r3 _ _).1, e 30 (by omega) (by omega) j c0]; exact t5, by rw [(r3 _ _).1, e 31 (by omega) (by omega) j c0]; exact t6⟩
    · have ej : j = sT σ := by omega
      have m4' := m4
      rw [w4] at m4'
      rw [ej, m4']
      obtain ⟨t1, t2, t3, t4, t5, t6⟩ := hv
      obtain ⟨r1, r2, r3⟩ := f.2.2 v (by rw [t1]; rfl)
      exact ⟨r1.trans t1, (r3 _ _).1.trans t2, (r3 _ _).1.trans t3, (r3 _ _).1.trans t4, (r3 _ _).1.trans t5, (r3 _ _).1.trans t6⟩
/-- the cells that a page has to itself are new -/
def pgFre (h h1 : hp_T) (a : Nat) : Prop := hK h a = 0 ∧ (hK h (dR h1 320 a) = 0 ∧ (hK h1 (lda h1 (dR h1 320 a)) = 162 → hK h (lda h1 (dR h1 320 a)) = 0) ∧ ∀ j, j < lsz h1 (dR h1 320 a) → hK h (dR h1 385 (lel h1 (dR h1 320 a) j)) = 0) ∧ hK h (dR h1 321 a) = 0 ∧ (hK h1 (lda h1 (dR h1 321 a)) = 163 → hK h (lda h1 (dR h1 321 a)) = 0) ∧ ∀ j, j < lsz h1 (dR h1 321 a) → hK h (lel h1 (dR h1 321 a) j) = 0
theorem pgR.cg {h h1 : hp_T} {σ : sg_T} {o o' : ow_T} {p a : Nat} (x : pgR h1 σ o p a) (F : pgFre h h1 a) (e : ∀ b, hK h b = 0 → o' b = o b) : pgR h1 σ o' p a := by
  obtain ⟨⟨⟨x1, x2⟩, x3⟩, ⟨x6, x7, y1, y2, y3⟩, x9, x10, z1, z2, z3⟩ := x
  obtain ⟨F1, ⟨F2, F3, F4⟩, F5, F6, F7⟩ := F
  refine ⟨⟨⟨x1, by rw [e a F1]; exact x2⟩, x3⟩, ⟨x6, x7, by rw [e _ F2]; exact y1, fun z => by rw [e _ (F3 z)]; exact y2 z, fun j hj => by rw [e _ (F4 j (by rw [x7.1.2.2.1]; exact hj))]; exact y3 j hj⟩, x9, x10, by rw [e _ F5]; exact z1, fun z => by rw [e _ (F6 z)]; exact z2 z, fun j hj => by rw [e _ (F7 j (by rw [x10.1.2.2.1]; exact hj))]; exact z3 j hj⟩
theorem objK_5 {k : Nat} (h : k = 5) : objK k := by rw [h]; simp [objK]
/-- a page was added -/
theorem RC.addPg {h h1 h' : hp_T} {c a : Nat} {σ σ' : sg_T} {ν : ow_T} (x : RC h c σ) (E : Ext h h1) (z : LAdd h1 h' (dR h 640 c) a) (n8 : sN σ < 8) (F : pgFre h h1 a) (hv : pgR h1 σ' ν (sN σ) a) (eN : sN σ' = sN σ + 1) (e0 : σ' 13 0 = σ 13 0 ∧ σ' 26 0 = σ 26 0 ∧ σ' 32 0 = σ 32 0 ∧ σ' 33 0 = σ 33 0) (eT : ∀ k, 27 ≤ k → k ≤ 31 → ∀ j, σ' k j = σ k j) (eP : ∀ p, p < sN σ → sPg σ σ' p) : RC h' c σ' := by
  obtain ⟨⟨x1, x2, x3⟩, ⟨y1, y2, y3⟩, ⟨z1, ⟨z2, z4, z5, z6⟩, o, z3⟩, w1, w2⟩ := x
  obtain ⟨e13, e26, e32, e33⟩ := e0
  have L1 := E.K z2 (by decide)
  obtain ⟨g1, g2, g3, g4⟩ := z4.ext E
  have ne1 : ∀ b, hK h1 b ≠ 0 → ¬ hK h1 b = 20 → ¬ hK h1 b = 160 → sameAt h1 h' b := fun b h0 h1 h2 => z.frame h0 (fun e => h1 (e ▸ L1)) (by rw [L1]; exact h2)
  have ne : ∀ b, hK h b ≠ 0 → ¬ hK h b = 20 → ¬ hK h b = 160 → sameAt h h' b := fun b h0 q1 q2 => by
    have s : sameAt h h1 b := E.1 b h0
    exact s.trans (ne1 b (by rw [s.1]; exact h0) (by rw [s.1]; exact q1) (by rw [s.1]; exact q2))
  have f1 : Fr h1 h' := ⟨fun b hb => (z.1 b hb).1, z.2.1, fun b hb => ne1 b (imK_0 hb) (fun e => by rw [e] at hb; cases hb) (fun e => by rw [e] at hb; cases hb)⟩
  have f : Fr h h' := (Fr.of_ext E).trans f1
  have s := ne c (by rw [x1]; decide) (by rw [x1]; decide) (by rw [x1]; decide)
  have d0 := s.dR 640
  have d1 := s.dR 641
  obtain ⟨s1, s2, s3⟩ := s
  have cs := f.2.2 (hC h 0) (by rw [x2]; rfl)
  obtain ⟨m1, m2, m3, m4, m5⟩ := z.ok g1 (by omega) (objK_5 hv.1.1.1)
  rw [g2, z5] at m2 m3 m4
  refine ⟨⟨s1.trans x1, by rw [f.2.1, cs.1]; exact x2, by rw [f.2.1, cs.2.1]; exact x3⟩, ⟨?_, ?_, ?_⟩, ⟨?_, ⟨?_, ?_, ?_, ?_⟩, fun b => if hK h b = 0 then ν b else o b, fun p hp => ?_⟩, ?_, ?_⟩
  · rw [(s3 _ _).1, e13]; exact y1
  · rw [(s3 _ _).1, e32]; exact y2
  · rw [(s3 _ _).1, e33]; exact y3
  · rw [d0, (s3 _ _).2]; exact z1
  · rw [d0]; exact m5.trans L1
  · rw [d0]; exact m1
  · rw [d0, m2, eN]
  · omega
  · rw [d0]
    by_cases c0 : p < sN σ
    · rw [m3 p c0, g4]
      exact (z3 p c0).fr f (fun b h1 _ => ne b (ownK_0 h1) (fun e => by rw [e] at h1; cases h1) (fun e => by rw [e] at h1; cases h1)) (fun b hb => if_neg hb) (eP p c0)
    · have ep : p = sN σ := by omega
      rw [ep, m4]
      exact (hv.cg (o' := fun b => if hK h b = 0 then ν b else o b) F (fun b hb => if_pos hb)).fr f1 (fun b h1 _ => ne1 b (ownK_0 h1) (fun e => by rw [e] at h1; cases h1) (fun e => by rw [e] at h1; cases h1)) (fun _ _ => rfl) sPg.rfl
  · rw [d1, (s3 _ _).2]; exact w1
  · rw [d1]
    exact w2.fr f (fun b hb => ne b (by rcases hb with e | e <;> rw [e] <;> decide) (by rcases hb with e | e <;> rw [e] <;> decide) (by rcases hb with e | e <;> rw [e] <;> decide)) e26 eT
/-- only a page's own cell has changed -/
theorem RC.cell {h h' : hp_T} {c : Nat} {σ σ' : sg_T} (x : RC h c σ) {p0 : Nat} (hp0 : p0 < sN σ) (S : ∀ b, hK h b ≠ 0 → b ≠ lel h (dR h 640 c) p0 → sameAt h h' b) (ek : ∀ b, hK h b ≠ 0 → hK h' b = hK h b) (ec : ∀ i, hC h' i = hC h i) (e : sSc σ σ') (e2 : ∀ p, p < sN σ → ¬ p = p0 → sPg σ σ' p)
    (e3 : (σ' 2 p0 = σ 2 p0 ∧ σ' 3 p0 = σ 3 p0) ∧ (∀ k, 9 ≤ k → k ≤ 12 → ∀ i, i < 8 → σ' k (8 * p0 + i) = σ k (8 * p0 + i)) ∧ (∀ k, 14 ≤ k → k ≤ 18 → ∀ i, i < 8 → ∀ g, g < 12 → σ' k (12 * (8 * p0 + i) + g) = σ k (12 * (8 * p0 + i) + g)) ∧ ∀ k, 19 ≤ k → k ≤ 25 → ∀ i, i < 20 → σ' k (20 * p0 + i) = σ k (20 * p0 + i))
    (r : hR h' 320 (lel h (dR h 640 c) p0) 0 = hR h 320 (lel h (dR h 640 c) p0) 0 ∧ hR h' 321 (lel h (dR h 640 c) p0) 0 = hR h 321 (lel h (dR h 640 c) p0) 0)
    (H : ∀ o : ow_T, pgR h σ o p0 (lel h (dR h 640 c) p0) → hI h' 322 (lel h (dR h 640 c) p0) 0 = σ' 1 p0 ∧ hI h' 323 (lel h (dR h 640 c) p0) 0 = σ' 4 p0 ∧ prR h' σ' p0 (hR h' 324 (lel h (dR h 640 c) p0) 0)) : RC h' c σ' := by
  have hpg : ∃ o : ow_T, pgR h σ o p0 (lel h (dR h 640 c) p0) := by
    obtain ⟨o, ho⟩ := x.2.2.1.2.2
    exact ⟨o, ho p0 hp0⟩
  have k5 : hK h (lel h (dR h 640 c) p0) = 5 := by obtain ⟨o, ho⟩ := hpg; exact ho.1.1.1
  have S2 : ∀ b, hK h b ≠ 0 → ¬ hK h b = 5 → sameAt h h' b := fun b h0 h5 => S b h0 (fun e => h5 (e ▸ k5))
  have f : Fr h h' := ⟨ek, ec, fun b hb => S2 b (imK_0 hb) (fun e => by rw [e] at hb; cases hb)⟩
  refine x.page p0 f (fun b hb => S2 b (topK_0 hb) (fun e => by rw [e] at hb; cases hb)) e e2 (fun o ho => ⟨o, fun _ _ => rfl, fun b hb ho1 => S b (ownK_0 hb) (fun e => ho1 ?_), ?_⟩)
  · rw [e]; exact (ho p0 hp0).1.1.2
  · obtain ⟨H1, H2, H3⟩ := H o (ho p0 hp0)
    obtain ⟨⟨⟨x1, x2⟩, x3, x4, x5⟩, ⟨x6, x7, x8⟩, x9, x10, x11⟩ := ho p0 hp0
    generalize lel h (dR h 640 c) p0 = a at *
    have d0 : dR h' 320 a = dR h 320 a := congrArg (fun o : Option Nat => o.getD 0) r.1
    have d1 : dR h' 321 a = dR h 321 a := congrArg (fun o : Option Nat => o.getD 0) r.2
    have row : ∀ L, lOK h L → sameAt h h' (lda h L) := fun L kl => by
      rcases kl.row with z | z
      · exact f.2.2 _ z
      · exact S2 _ kl.live.2 (by rcases kl.1 with i | i | i | i <;> omega)
    obtain ⟨u1, u2⟩ := x7.fr2 (o' := o) x8 f (S2 _ x7.1.2.1.live.1 (by rw [x7.1.1]; decide)) (row _ x7.1.2.1) (fun j hj => S2 _ (by rw [(x7.2 j hj).1.2.2.1]; decide) (by rw [(x7.2 j hj).1.2.2.1]; decide)) (fun _ _ => rfl) e3.1.1 e3.2.1 e3.2.2.1
    obtain ⟨v1, v2⟩ := x10.fr2 (o' := o) x11 f (S2 _ x10.1.2.1.live.1 (by rw [x10.1.1]; decide)) (row _ x10.1.2.1) (fun j hj => S2 _ (by rw [(x10.2 j hj).1.1]; decide) (by rw [(x10.2 j hj).1.1]; decide)) (fun _ _ => rfl) e3.1.2 e3.2.2.2
    exact ⟨⟨⟨(ek a (by rw [k5]; decide)).trans k5, x2⟩, H1, H2, H3⟩, ⟨by rw [r.1, d0]; exact x6, by rw [d0]; exact u1, by rw [d0]; exact u2⟩, by rw [r.2, d1]; exact x9, by rw [d1]; exact v1, by rw [d1]; exact v2⟩
