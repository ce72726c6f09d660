theorem sameAt.ext_sR {h h1 : hp_T} (E : Ext h h1) {b q f j : Nat} {v : Option Nat} (hb : hK h b ≠ 0) (ne : ¬ b = q) : sameAt h (hsR h1 f q j v) b := by
  have s : sameAt h h1 b := E.1 b hb
  exact s.trans (sameAt.sR ne)
/-- a face was put into panel j0 of page p0 -/
theorem RC.face {h h1 : hp_T} {c p0 j0 g q R : Nat} {σ σ' : sg_T} (x : RC h c σ) (hp0 : p0 < sN σ) (hj0 : j0 < pN σ p0) (hg : g < 12) (E : Ext h h1) (hR : R = dR h 385 (lel h (dR h 320 (lel h (dR h 640 c) p0)) j0)) (hq : fcR h1 σ' (12 * (8 * p0 + j0) + g) (some q)) (e : sSc σ σ') (e2 : ∀ p, p < sN σ → ¬ p = p0 → sPg σ σ' p)
    (e3 : (∀ k, 1 ≤ k → k ≤ 7 → σ' k p0 = σ k p0) ∧ (∀ k, 8 ≤ k → k ≤ 12 → ∀ i, i < 8 → σ' k (8 * p0 + i) = σ k (8 * p0 + i)) ∧ (∀ k, 14 ≤ k → k ≤ 18 → ∀ i, i < 8 → ∀ f, f < 12 → ¬ (i = j0 ∧ f = g) → σ' k (12 * (8 * p0 + i) + f) = σ k (12 * (8 * p0 + i) + f)) ∧ ∀ k, 19 ≤ k → k ≤ 25 → ∀ i, i < 20 → σ' k (20 * p0 + i) = σ k (20 * p0 + i)) : RC (hsR h1 170 R g (some q)) c σ' := by
  have kR : hK h R = 170 := by
    obtain ⟨o, ho⟩ := x.2.2.1.2.2
    rw [hR]; exact ((ho p0 hp0).2.1.2.1.2 j0 hj0).1.2.2.1
  have S : ∀ b, hK h b ≠ 0 → ¬ b = R → sameAt h (hsR h1 170 R g (some q)) b := fun b h0 n => sameAt.ext_sR E h0 n
  have S2 : ∀ b, hK h b ≠ 0 → ¬ hK h b = 170 → sameAt h (hsR h1 170 R g (some q)) b := fun b h0 n => S b h0 (fun e => n (e ▸ kR))
  have f : Fr h (hsR h1 170 R g (some q)) := ⟨fun b hb => (E.1 b hb).1, E.2, fun b hb => S2 b (imK_0 hb) (fun e => by rw [e] at hb; cases hb)⟩
  refine x.page p0 f (fun b hb => S2 b (topK_0 hb) (fun e => by rw [e] at hb; cases hb)) e e2 (fun o ho => ⟨o, fun _ _ => rfl, fun b hb ho1 => S b (ownK_0 hb) (fun e => ho1 ?_), ?_⟩)
  · rw [e, hR, (ho p0 hp0).2.1.2.2.2.2 j0 hj0]
  · obtain ⟨⟨⟨x1, x2⟩, x3, x4, x5⟩, ⟨x6, ⟨⟨x7, x8, x9, x10⟩, x11⟩, y1, y2, y3⟩, x12, x13, x14⟩ := ho p0 hp0
    generalize lel h (dR h 640 c) p0 = a at *
    have oR : o R = (p0, j0) := by rw [hR]; exact y3 j0 hj0
    have s := S2 a (by rw [x1]; decide) (by rw [x1]; decide)
    have d0 := s.dR 320
    have d1 := s.dR 321
    obtain ⟨s1, s2, s3⟩ := s
    obtain ⟨e31, e32, e33, e34⟩ := e3
    have row : ∀ L, lOK h L → sameAt h (hsR h1 170 R g (some q)) (lda h L) := fun L kl => by
      rcases kl.row with w | w
      · exact f.2.2 _ w
      · exact S2 _ kl.live.2 (by rcases kl.1 with i | i | i | i <;> omega)
    obtain ⟨v1, v2⟩ := x13.fr2 (o' := o) (σ' := σ') x14 f (S2 _ x13.1.2.1.live.1 (by rw [x13.1.1]; decide)) (row _ x13.1.2.1) (fun j hj => S2 _ (by rw [(x13.2 j hj).1.1]; decide) (by rw [(x13.2 j hj).1.1]; decide)) (fun _ _ => rfl) (e31 3 (by omega) (by omega)) e34
    have sL := S2 (dR h 320 a) x8.live.1 (by rw [x7]; decide)
    obtain ⟨l1, l2, l3, l4⟩ := x8.same sL (row _ x8) f.1 f.2.1
    have eN : pN σ' p0 = pN σ p0 := by unfold pN; rw [e31 2 (by omega) (by omega)]
    have Q : ∀ j, j < pN σ p0 → pnR (hsR h1 170 R g (some q)) σ' (8 * p0 + j) (lel h (dR h 320 a) j) ∧ dR (hsR h1 170 R g (some q)) 385 (lel h (dR h 320 a) j) = dR h 385 (lel h (dR h 320 a) j) := fun j hj => by
      by_cases c0 : j = j0
      · subst c0
        obtain ⟨⟨z1, z2, z3, z4⟩, ⟨z5, z6⟩, z7⟩ := x11 j hj
        generalize lel h (dR h 320 a) j = P at *
        have t := f.2.2 P (by rw [z1]; rfl)
        have d4 := t.dR 384
        have d5 := t.dR 385
        obtain ⟨t1, t2, t3⟩ := t
        subst hR
        have r1 := (E.1 (dR h 385 P) (by rw [z3]; decide))
        refine ⟨⟨⟨t1.trans z1, by rw [d5, (t3 _ _).2]; exact z2, by rw [d5]; exact r1.1.trans z3, by rw [d5]; exact r1.2.1.trans z4⟩, ⟨by rw [d4, (t3 _ _).2]; exact z5, ?_⟩, fun g' hg' => ?_⟩, d5⟩
        · rw [d4, e32 9 (by omega) (by omega) j (by omega), e32 10 (by omega) (by omega) j (by omega), e32 11 (by omega) (by omega) j (by omega), e32 12 (by omega) (by omega) j (by omega)]; exact f.box z6
        · unfold pnFO
          rw [d5, hR_sR]
          by_cases c1 : g' = g
          · rw [if_pos ⟨rfl, rfl, c1⟩, c1]
            have f1 : Fr h1 (hsR h1 170 (dR h 385 P) g (some q)) := ⟨fun _ _ => rfl, fun _ => rfl, fun b hb => sameAt.sR (fun e => by rw [e, r1.1, z3] at hb; cases hb)⟩
            exact hq.fr f1 (fun _ _ _ => rfl)
          · rw [if_neg (fun z => c1 z.2.2), (r1.2.2 170 g').2]
            exact (z7 g' hg').fr f (fun k a b => e33 k a b j (by omega) g' hg' (fun z => c1 z.2))
      · refine (x11 j hj).fr f (S _ (by rw [(x11 j hj).1.2.2.1]; decide) (fun e => c0 ?_)) (fun k a b => e32 k (by omega) b j (by omega)) (fun g' hg' k a b => e33 k a b j (by omega) g' hg' (fun z => c0 z.1))
        have := y3 j hj
        rw [e, oR] at this
        exact (congrArg Prod.snd this).symm
    refine ⟨⟨⟨s1.trans x1, x2⟩, ?_, ?_, ?_⟩, ⟨?_, ⟨⟨?_, ?_, ?_, ?_⟩, fun j hj => ?_⟩, ?_, fun w => ?_, fun j hj => ?_⟩, ?_, ?_, ?_⟩
    · rw [(s3 _ _).1, e31 1 (by omega) (by omega)]; exact x3
    · rw [(s3 _ _).1, e31 4 (by omega) (by omega)]; exact x4
    · rw [(s3 _ _).2]; exact x5.fr f (fun k a b => e31 k (by omega) b) (e32 8 (by omega) (by omega))
    · rw [d0, (s3 _ _).2]; exact x6
    · rw [d0]; exact sL.1.trans x7
    · rw [d0]; exact l1
    · rw [d0, l2, eN]; exact x9
    · omega
    · rw [d0, l4]; exact (Q j (by omega)).1
    · rw [d0]; exact y1
    · rw [d0, l3] at w ⊢
      exact y2 (by rw [← f.1 _ x8.live.2]; exact w)
    · rw [d0, l4, (Q j (by omega)).2]; exact y3 j (by omega)
    · rw [d1, (s3 _ _).2]; exact x12
    · rw [d1]; exact v1
    · rw [d1]; exact v2
/-- balloon j0 of page p0 got another rectangle -/
theorem RC.bal {h h1 : hp_T} {c p0 j0 q R : Nat} {σ σ' : sg_T} (x : RC h c σ) (hp0 : p0 < sN σ) (hj0 : j0 < bN σ p0) (E : Ext h h1) (hR : R = lel h (dR h 321 (lel h (dR h 640 c) p0)) j0) (hq : bx4 h1 q (σ' 20 (20 * p0 + j0)) (σ' 21 (20 * p0 + j0)) (σ' 22 (20 * p0 + j0)) (σ' 23 (20 * p0 + j0))) (e : sSc σ σ') (e2 : ∀ p, p < sN σ → ¬ p = p0 → sPg σ σ' p)
    (e3 : (∀ k, 1 ≤ k → k ≤ 7 → σ' k p0 = σ k p0) ∧ (∀ k, 8 ≤ k → k ≤ 12 → ∀ i, i < 8 → σ' k (8 * p0 + i) = σ k (8 * p0 + i)) ∧ (∀ k, 14 ≤ k → k ≤ 18 → ∀ i, i < 8 → ∀ f, f < 12 → σ' k (12 * (8 * p0 + i) + f) = σ k (12 * (8 * p0 + i) + f)) ∧ ∀ k, 19 ≤ k → k ≤ 25 → ∀ i, i < 20 → ¬ (20 ≤ k ∧ k ≤ 23 ∧ i = j0) → σ' k (20 * p0 + i) = σ k (20 * p0 + i)) : RC (hsR h1 131 R 0 (some q)) c σ' := by
  have kR : hK h R = 2 := by
    obtain ⟨o, ho⟩ := x.2.2.1.2.2
    rw [hR]; exact ((ho p0 hp0).2.2.2.1.2 j0 hj0).1.1
  have S : ∀ b, hK h b ≠ 0 → ¬ b = R → sameAt h (hsR h1 131 R 0 (some q)) b := fun b h0 n => sameAt.ext_sR E h0 n
  have S2 : ∀ b, hK h b ≠ 0 → ¬ hK h b = 2 → sameAt h (hsR h1 131 R 0 (some q)) b := fun b h0 n => S b h0 (fun e => n (e ▸ kR))
  have f : Fr h (hsR h1 131 R 0 (some q)) := ⟨fun b hb => (E.1 b hb).1, E.2, fun b hb => S2 b (imK_0 hb) (fun e => by rw [e] at hb; cases hb)⟩
  refine x.page p0 f (fun b hb => S2 b (topK_0 hb) (fun e => by rw [e] at hb; cases hb)) e e2 (fun o ho => ⟨o, fun _ _ => rfl, fun b hb ho1 => S b (ownK_0 hb) (fun e => ho1 ?_), ?_⟩)
  · rw [e, hR, (ho p0 hp0).2.2.2.2.2.2 j0 hj0]
  · obtain ⟨⟨⟨x1, x2⟩, x3, x4, x5⟩, ⟨x12, x13, x14⟩, x6, ⟨⟨x7, x8, x9, x10⟩, x11⟩, y1, y2, y3⟩ := ho p0 hp0
    generalize lel h (dR h 640 c) p0 = a at *
    have oR : o R = (p0, j0) := by rw [hR]; exact y3 j0 hj0
    have s := S2 a (by rw [x1]; decide) (by rw [x1]; decide)
    have d0 := s.dR 320
    have d1 := s.dR 321
    obtain ⟨s1, s2, s3⟩ := s
    obtain ⟨e31, e32, e33, e34⟩ := e3
    have row : ∀ L, lOK h L → sameAt h (hsR h1 131 R 0 (some q)) (lda h L) := fun L kl => by
      rcases kl.row with w | w
      · exact f.2.2 _ w
      · exact S2 _ kl.live.2 (by rcases kl.1 with i | i | i | i <;> omega)
    obtain ⟨v1, v2⟩ := x13.fr2 (o' := o) (σ' := σ') x14 f (S2 _ x13.1.2.1.live.1 (by rw [x13.1.1]; decide)) (row _ x13.1.2.1) (fun j hj => S2 _ (by rw [(x13.2 j hj).1.2.2.1]; decide) (by rw [(x13.2 j hj).1.2.2.1]; decide)) (fun _ _ => rfl) (e31 2 (by omega) (by omega)) (fun k a b => e32 k (by omega) b) e33
    have sL := S2 (dR h 321 a) x8.live.1 (by rw [x7]; decide)
    obtain ⟨l1, l2, l3, l4⟩ := x8.same sL (row _ x8) f.1 f.2.1
    have eN : bN σ' p0 = bN σ p0 := by unfold bN; rw [e31 3 (by omega) (by omega)]
    have Q : ∀ j, j < bN σ p0 → blR (hsR h1 131 R 0 (some q)) σ' (20 * p0 + j) (lel h (dR h 321 a) j) := fun j hj => by
      by_cases c0 : j = j0
      · subst c0
        obtain ⟨⟨z1, z2⟩, z3, z4, z5, z6⟩ := x11 j hj
        rw [← hR] at z1 z3 z4 z5 ⊢
        have r1 := (E.1 R (by rw [z1]; decide))
        have dd : dR (hsR h1 131 R 0 (some q)) 131 R = q := by
          apply dR_of
          rw [hR_sR, if_pos ⟨rfl, rfl, rfl⟩]
        have f1 : Fr h1 (hsR h1 131 R 0 (some q)) := ⟨fun _ _ => rfl, fun _ => rfl, fun b hb => sameAt.sR (fun e => by rw [e, r1.1, z1] at hb; cases hb)⟩
        refine ⟨⟨r1.1.trans z1, by rw [dd, hR_sR, if_pos ⟨rfl, rfl, rfl⟩]⟩, ?_, ?_, ?_, ?_⟩
        · rw [hI_sR, (r1.2.2 _ _).1, e34 19 (by omega) (by omega) j (by omega) (by omega)]; exact z3
        · rw [hI_sR, (r1.2.2 _ _).1, e34 24 (by omega) (by omega) j (by omega) (by omega)]; exact z4
        · rw [hI_sR, (r1.2.2 _ _).1, e34 25 (by omega) (by omega) j (by omega) (by omega)]; exact z5
        · rw [dd]; exact f1.box hq
      · refine (x11 j hj).fr f (S _ (by rw [(x11 j hj).1.1]; decide) (fun e => c0 ?_)) (fun k a b => e34 k a b j (by omega) (fun z => c0 z.2.2))
        have := y3 j hj
        rw [e, oR] at this
        exact (congrArg Prod.snd this).symm
    refine ⟨⟨⟨s1.trans x1, x2⟩, ?_, ?_, ?_⟩, ⟨?_, ?_, ?_⟩, ?_, ⟨⟨?_, ?_, ?_, ?_⟩, fun j hj => ?_⟩, ?_, fun w => ?_, fun j hj => ?_⟩
    · rw [(s3 _ _).1, e31 1 (by omega) (by omega)]; exact x3
    · rw [(s3 _ _).1, e31 4 (by omega) (by omega)]; exact x4
    · rw [(s3 _ _).2]; exact x5.fr f (fun k a b => e31 k (by omega) b) (e32 8 (by omega) (by omega))
    · rw [d0, (s3 _ _).2]; exact x12
    · rw [d0]; exact v1
    · rw [d0]; exact v2
    · rw [d1, (s3 _ _).2]; exact x6
    · rw [d1]; exact sL.1.trans x7
    · rw [d1]; exact l1
    · rw [d1, l2, eN]; exact x9
    · omega
    · rw [d1, l4]; exact Q j (by omega)
    · rw [d1]; exact y1
    · rw [d1, l3] at w ⊢
      exact y2 (by rw [← f.1 _ x8.live.2]; exact w)
    · rw [d1, l4]; exact y3 j (by omega)
