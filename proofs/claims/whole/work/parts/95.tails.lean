theorem nI_Z (n : Nat) : nI n = iZ (n : Int) := by
  unfold nI iZ
  exact Int32.ofInt_eq_ofNat.symm
theorem half_n : ∀ w, w < 100 → nI w / 2 = nI (w / 2) := by decide +kernel
/-- the rectangle of a balloon in small numbers -/
theorem blB {σ : sg_T} (hW : WF σ) {p k : Nat} (hp : p < 8) (hk : k < bN σ p) : ∃ x y w h : Int, σ 20 (20 * p + k) = iZ x ∧ σ 21 (20 * p + k) = iZ y ∧ σ 22 (20 * p + k) = iZ w ∧ σ 23 (20 * p + k) = iZ h ∧ cM σ 20 22 (20 * p + k) = iZ (x + w / 2) ∧ cM σ 21 23 (20 * p + k) = iZ (y + h / 2) ∧ -60 ≤ x ∧ x ≤ 60 ∧ 0 ≤ y ∧ y ≤ 80 ∧ 0 ≤ w ∧ w ≤ 60 ∧ 0 ≤ h ∧ h ≤ 80 := by
  obtain ⟨-, -, -, X, Y, W, H, e1, e2, e3, e4, b1, b2, b3, b4, b5, b6, b7, b8, b9⟩ := hW.2.2.2.2.1 p k hp hk
  have ex : σ 20 (20 * p + k) = iZ ((X : Int) - 60) := by
    rw [← iZ_sub, ← nI_Z, ← e1]
    exact (Int32.add_sub_cancel _ _).symm
  refine ⟨(X : Int) - 60, Y, W, H, ex, by rw [e2, nI_Z], by rw [e3, nI_Z], by rw [e4, nI_Z], ?_, ?_, by omega, by omega, by omega, by omega, by omega, by omega, by omega, by omega⟩
  · unfold cM
    rw [ex, e3, half_n W (by omega), nI_Z, iZ_add]
    congr 1
  · unfold cM
    rw [e2, e4, half_n H (by omega), nI_Z, nI_Z, iZ_add]
    congr 1
/-- a drawing's middle in small numbers -/
theorem fcB {σ : sg_T} (hW : WF σ) {p k f : Nat} (hp : p < 8) (hk : k < 8) (hf : f < 12) (h0 : 0 < σ 16 (12 * (8 * p + k) + f)) : ∃ x y : Int, cM σ 14 16 (12 * (8 * p + k) + f) = iZ x ∧ cM σ 15 16 (12 * (8 * p + k) + f) = iZ y ∧ 0 ≤ x ∧ x ≤ 80 ∧ 0 ≤ y ∧ y ≤ 90 := by
  rcases (hW.2.2.2.1 p k f hp hk hf).2 with e | ⟨-, -, X, Y, S, e1, e2, e3, b1, b2, b3, b4⟩
  · rw [e] at h0; exact absurd h0 (by decide)
  · refine ⟨(X : Int) + (S : Int) / 2, (Y : Int) + (S : Int) / 2, ?_, ?_, by omega, by omega, by omega, by omega⟩
    · unfold cM
      rw [e1, e3, half_n S (by omega), nI_Z, nI_Z, iZ_add]
      congr 1
    · unfold cM
      rw [e2, e3, half_n S (by omega), nI_Z, nI_Z, iZ_add]
      congr 1
theorem mid_b {h : hp_T} {σ : sg_T} {i q : Nat} (k : blR h σ i q) : mX h (dR h 131 q) = cM σ 20 22 i ∧ mY h (dR h 131 q) = cM σ 21 23 i := by
  obtain ⟨-, -, -, -, b1, b2, b3, b4, b5⟩ := k
  unfold mX mY cM
  rw [b2, b3, b4, b5]
  exact ⟨rfl, rfl⟩
theorem mid_f {h : hp_T} {σ : sg_T} {d c : Nat} (k : fcR h σ d (some c)) : mX h (dR h 256 c) = cM σ 14 16 d ∧ mY h (dR h 256 c) = cM σ 15 16 d := by
  obtain ⟨-, -, -, ⟨b1, b2, b3, b4, b5⟩, -⟩ := k
  unfold mX mY cM
  rw [b2, b3, b4, b5]
  exact ⟨rfl, rfl⟩
/-- the speaker's face, and the drawing that the tail goes to -/
theorem spk_tail {h : hp_T} {σ : sg_T} {p k i q w : Nat} (hW : WF σ) (hp : p < 8) (hk : k < bN σ p) (kb : blR h σ (20 * p + k) w) (kp : pnR h σ (8 * p + i) q) (e19 : σ 19 (20 * p + k) = nI i) (hi : i < 8) :
    (spk h q w = none ∧ tailM σ p k = none) ∨ ∃ c f, f < 12 ∧ spk h q w = some c ∧ tailM σ p k = some (12 * (8 * p + i) + f) ∧ σ 24 (20 * p + k) = nI f ∧ fcR h σ (12 * (8 * p + i) + f) (some c) ∧ 0 < σ 16 (12 * (8 * p + i) + f) := by
  obtain ⟨-, e2, -⟩ := hW.2.2.2.2.1 p k hp hk
  have wf := hW.1.2.1.2
  have k129 := kb.2.2.1
  unfold spk tailM
  rw [k129, e19, cl_nI (by omega)]
  rcases e2 with e2 | ⟨f, hf, e2⟩
  · rw [e2]
    left
    rw [if_neg (fun z => z.1 (by decide)), if_pos rfl]
    exact ⟨rfl, rfl⟩
  · have y := kp.2.2 f (by omega)
    rw [e2, cl_nI (by omega), if_pos ⟨nI_pos (by omega), (ltI (a := f) (b := 12) (by omega) (by omega)).mpr (by omega)⟩, if_neg (oI_m1 (by omega))]
    cases ho : pnFO h q f with
    | none =>
      left
      rw [ho] at y
      have z : σ 16 (12 * (8 * p + i) + f) = 0 := y
      rw [if_neg (by rw [z]; decide)]
      exact ⟨rfl, rfl⟩
    | some c =>
      right
      rw [ho] at y
      have z := y.2.2.2.2
      exact ⟨c, f, by omega, rfl, by rw [if_pos z], rfl, y, z⟩
theorem tails_eq {h : hp_T} {σ : sg_T} {p a k i : Nat} (v : PgV h σ p a) (hW : WF σ) (hp : p < 8) (hk : k < bN σ p) (e19 : σ 19 (20 * p + k) = nI i) (hi : i < pN σ p) : tlHit h a (nI k) (bl h a k) (pn h a i) ↔ tanM σ p k := by
  have w8 := (hW.2.1 p hp).1.2
  have w20 := (hW.2.1 p hp).2.1.2
  have kp := v.2.1 i hi
  have kb := v.2.2 k hk
  obtain ⟨m1, m2⟩ := mid_b kb
  obtain ⟨X, Y, W, H, g1, g2, g3, g4, g5, g6, g7, g8, g9, g10, g11, g12, g13, g14⟩ := blB hW hp hk
  unfold tlHit tanM
  rcases spk_tail hW hp hk kb kp e19 (by omega) with ⟨s1, s2⟩ | ⟨c, f, hf, s1, s2, s3, s4, s5⟩
  · rw [s1, s2]
    constructor
    · rintro ⟨c, z, -⟩; cases z
    · rintro ⟨d, z, -⟩; cases z
  · rw [s1, s2]
    obtain ⟨n1, n2⟩ := mid_f s4
    obtain ⟨FX, FY, f1, f2, f3, f4, f5, f6⟩ := fcB hW hp (by omega) hf s5
    have key : ∀ j, j < bN σ p → (tlOn h a (nI k) (bl h a k) (pn h a i) c j ↔ ¬ j = k ∧ σ 19 (20 * p + j) = σ 19 (20 * p + k) ∧ tgM σ p k (12 * (8 * p + i) + f) j) := by
      intro j hj
      have kj := v.2.2 j hj
      obtain ⟨o1, o2⟩ := mid_b kj
      obtain ⟨X2, Y2, W2, H2, q1, q2, q3, q4, q5, q6, q7, q8, q9, q10, q11, q12, q13, q14⟩ := blB hW hp hj
      obtain ⟨-, -, -, -, b1, b2, b3, b4, b5⟩ := kj
      have kj := v.2.2 j hj
      unfold tlOn
      have ejk : nI j = nI k ↔ j = k := nI_eq (by omega) (by omega)
      rw [ejk, kj.2.1, kb.2.1]
      refine and_congr_right (fun nj => and_congr_right (fun es => ?_))
      have ebb : bb h a j = dR h 131 (bl h a j) := rfl
      rw [ebb, b2, b3, b4, b5, m1, m2, n1, n2, g5, g6, f1, f2, q1, q2, q3, q4]
      unfold tgM
      rw [g5, g6, f1, f2, q1, q2, q3, q4]
      refine or_congr (to_hi ⟨by omega, by omega⟩ ⟨by omega, by omega⟩ ⟨by omega, by omega⟩ ⟨by omega, by omega⟩ ⟨by omega, by omega⟩ ⟨by omega, by omega⟩ ⟨by omega, by omega⟩ ⟨by omega, by omega⟩ q11 q13) ?_
      unfold tHit
      rcases spk_tail hW hp hj kj kp (es.trans e19) (by omega) with ⟨t1, t2⟩ | ⟨c2, e, he, t1, t2, t3, t4, t5⟩
      · rw [t1, t2]
        exact ⟨fun ⟨c, z, _⟩ => (by cases z), fun z => z.elim⟩
      · rw [t1, t2]
        obtain ⟨r1, r2⟩ := mid_f t4
        obtain ⟨GX, GY, h1, h2, h3, h4, h5, h6⟩ := fcB hW hp (by omega) he t5
        have e129 : (hI h 129 (bl h a j) 0 = hI h 129 (bl h a k) 0) ↔ e = f := by
          rw [kj.2.2.1, kb.2.2.1, t3, s3]
          exact nI_eq (by omega) (by omega)
        have ed : (12 * (8 * p + i) + e = 12 * (8 * p + i) + f) ↔ e = f := by omega
        by_cases c0 : e = f
        · subst c0
          dsimp only
          rw [if_pos rfl]
          constructor
          · rintro ⟨c', z1, z2⟩
            cases z1
            rw [if_pos (e129.mpr rfl), o1, o2, r1, r2, q5, q6, f1, f2] at z2
            rw [q5, q6]
            exact (al_Z ⟨by omega, by omega⟩ ⟨by omega, by omega⟩ ⟨by omega, by omega⟩ ⟨by omega, by omega⟩ ⟨by omega, by omega⟩ ⟨by omega, by omega⟩).mp z2
          · intro z
            refine ⟨c2, rfl, ?_⟩
            rw [if_pos (e129.mpr rfl), o1, o2, r1, r2, q5, q6, f1, f2]
            rw [q5, q6] at z
            exact (al_Z ⟨by omega, by omega⟩ ⟨by omega, by omega⟩ ⟨by omega, by omega⟩ ⟨by omega, by omega⟩ ⟨by omega, by omega⟩ ⟨by omega, by omega⟩).mpr z
        · dsimp only
          rw [if_neg (fun z => c0 (ed.mp z))]
          constructor
          · rintro ⟨c', z1, z2⟩
            cases z1
            rw [if_neg (fun z => c0 (e129.mp z)), o1, o2, r1, r2, q5, q6, h1, h2] at z2
            rw [q5, q6, h1, h2]
            exact (me_cr ⟨by omega, by omega⟩ ⟨by omega, by omega⟩ ⟨by omega, by omega⟩ ⟨by omega, by omega⟩ ⟨by omega, by omega⟩ ⟨by omega, by omega⟩ ⟨by omega, by omega⟩ ⟨by omega, by omega⟩).mp z2
          · intro z
            refine ⟨c2, rfl, ?_⟩
            rw [if_neg (fun z => c0 (e129.mp z)), o1, o2, r1, r2, q5, q6, h1, h2]
            rw [q5, q6, h1, h2] at z
            exact (me_cr ⟨by omega, by omega⟩ ⟨by omega, by omega⟩ ⟨by omega, by omega⟩ ⟨by omega, by omega⟩ ⟨by omega, by omega⟩ ⟨by omega, by omega⟩ ⟨by omega, by omega⟩ ⟨by omega, by omega⟩).mpr z
    constructor
    · rintro ⟨c', z1, j, z2, z3⟩
      cases z1
      exact ⟨_, rfl, j, by rw [v.1.2.2.1] at z2; exact z2, (key j (by rw [v.1.2.2.1] at z2; exact z2)).mp z3⟩
    · rintro ⟨d, z1, j, z2, z3⟩
      cases z1
      exact ⟨c, rfl, j, by rw [v.1.2.2.1]; exact z2, (key j z2).mpr z3⟩
