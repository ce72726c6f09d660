theorem WF_st {σ : sg_T} (hW : WF σ) {p : Nat} (hp : p < sN σ) (h4 : σ 4 p < 4) : WF (su σ 4 p (σ 4 p + 1)) := by
  have h8 := hW.1.1.2
  have u : ∀ j i, ¬ (j = 4 ∧ i = p) → su σ 4 p (σ 4 p + 1) j i = σ j i := fun j i h => by rw [su_at, if_neg h]
  have v4 : su σ 4 p (σ 4 p + 1) 4 p = σ 4 p + 1 := by rw [su_at, if_pos ⟨rfl, rfl⟩]
  have a0 := u 0 0 (by omega)
  have a13 := u 13 0 (by omega)
  have a26 := u 26 0 (by omega)
  have a32 := u 32 0 (by omega)
  have a33 := u 33 0 (by omega)
  have aB : ∀ j q, 5 ≤ j → su σ 4 p (σ 4 p + 1) j q = σ j q := fun j q _ => u j q (by omega)
  have a2 : ∀ q, su σ 4 p (σ 4 p + 1) 2 q = σ 2 q := fun q => u 2 q (by omega)
  have a3 : ∀ q, su σ 4 p (σ 4 p + 1) 3 q = σ 3 q := fun q => u 3 q (by omega)
  have eP : ∀ q, pN (su σ 4 p (σ 4 p + 1)) q = pN σ q := fun q => congrArg Int32.toNatClampNeg (a2 q)
  have eB : ∀ q, bN (su σ 4 p (σ 4 p + 1)) q = bN σ q := fun q => congrArg Int32.toNatClampNeg (a3 q)
  have eN : sN (su σ 4 p (σ 4 p + 1)) = sN σ := congrArg Int32.toNatClampNeg a0
  have eF : sF (su σ 4 p (σ 4 p + 1)) = sF σ := congrArg Int32.toNatClampNeg a13
  generalize su σ 4 p (σ 4 p + 1) = τ at *
  refine hW.chg (hW.sc a0 a13 a26 a32 a33) (fun q hq => ?_) (fun q i hq hk => Or.inl ⟨by rw [eP] at hk; exact hk, fun j h1 h2 => aB _ _ (by omega)⟩) (fun q hq => by rw [eP]; exact Nat.le_refl _) (by rw [eF]; exact Nat.le_refl _) (fun q i f hq hi hf => Or.inl (fun j h1 h2 => aB _ _ (by omega))) (fun q i hq hk => Or.inl ⟨by rw [eB] at hk; exact hk, fun j h1 h2 => aB _ _ (by omega)⟩) (fun j => by rw [aB 30 j (by omega)]; exact hW.2.2.2.2.2 j)
  by_cases c : q = p
  · right
    subst c
    obtain ⟨b1, b2, b3, ⟨s, b4, b4'⟩, b5, b6⟩ := hW.2.1 q hq
    rw [b4] at h4
    have l4 := (ltI (a := s) (b := 4) (by omega) (by omega)).mp h4
    unfold wfP
    rw [eP, eB, v4, eN, a2, a3, u 1 _ (by omega), u 5 _ (by omega), u 7 _ (by omega), b4]
    exact ⟨b1, b2, b3, ⟨s + 1, nI_1 s, by omega⟩, fun z => by omega, b6⟩
  · exact Or.inl ⟨fun j h1 h2 => u _ _ (by omega), fun z => eN ▸ z, fun z => eN ▸ z⟩
theorem sN_wk4 (σ : sg_T) (p : Nat) (v : Int32) : sN (su σ 4 p v) = sN σ := congrArg Int32.toNatClampNeg (by rw [su_at, if_neg (by omega)])
theorem WF_wkL : ∀ (k p d : Nat) (σ : sg_T), WF σ → p + k ≤ sN σ → WF (wkL k p d σ)
  | 0, _, _, _, hW, _ => hW
  | _ + 1, _, 0, _, hW, _ => hW
  | k + 1, p, d + 1, σ, hW, h => by
    rw [wkL]
    split
    · next c => exact WF_wkL k (p + 1) d _ (WF_st hW (by omega) c) (by rw [sN_wk4]; omega)
    · exact WF_wkL k (p + 1) (d + 1) σ hW (by omega)
theorem WF_wk1 {σ : sg_T} (hW : WF σ) {w : Nat} (h32 : σ 32 0 = nI w) (hw : w < 200) : WF (wk1 σ) ∧ wk1 σ 32 0 = nI (w + 1) := by
  have e : σ 32 0 + 1 = nI (w + 1) := by rw [h32]; exact nI_1 w
  unfold wk1
  rw [e]
  exact ⟨WF_num (WF_wkL _ _ _ _ hW (by omega)) (Or.inr (Or.inl ⟨rfl, by omega⟩)), by rw [su_at, if_pos ⟨rfl, rfl⟩]⟩
theorem WF_wkN : ∀ (W : Nat) (σ : sg_T) (w : Nat), WF σ → σ 32 0 = nI w → w + W ≤ 200 → WF (wkN W σ)
  | 0, _, _, hW, _, _ => hW
  | W + 1, σ, w, hW, h, hw => by
    rw [wkN]
    obtain ⟨h1, h2⟩ := WF_wk1 hW h (by omega)
    exact WF_wkN W _ (w + 1) h1 h2 (by omega)
theorem WF_press {σ : sg_T} (hW : WF σ) {p : Nat} (hp : p < sN σ) : WF (prW σ p) := by
  have h8 := hW.1.1.2
  have u : ∀ j i, ¬ (5 ≤ j ∧ j ≤ 7 ∧ i = p) → ¬ j = 8 → prW σ p j i = σ j i := fun j i h h8 => by
    unfold prW
    rw [su_at, if_neg (by omega)]
    unfold prQ
    rw [if_neg (by omega), if_neg (by omega), if_neg (by omega)]
  have v5 : prW σ p 5 p = σ 32 0 := by
    unfold prW
    rw [su_at, if_neg (by omega)]
    unfold prQ
    rw [if_neg (by omega), if_neg (by omega), if_pos ⟨rfl, rfl⟩]
  have a0 := u 0 0 (by omega) (by omega)
  have a13 := u 13 0 (by omega) (by omega)
  have a26 := u 26 0 (by omega) (by omega)
  have a32 := u 32 0 (by omega) (by omega)
  have a33 := u 33 0 (by omega) (by omega)
  have aB : ∀ j q, 9 ≤ j → prW σ p j q = σ j q := fun j q _ => u j q (by omega) (by omega)
  have aA : ∀ j q, j ≤ 4 → prW σ p j q = σ j q := fun j q _ => u j q (by omega) (by omega)
  have eP : ∀ q, pN (prW σ p) q = pN σ q := fun q => congrArg Int32.toNatClampNeg (aA 2 q (by omega))
  have eB : ∀ q, bN (prW σ p) q = bN σ q := fun q => congrArg Int32.toNatClampNeg (aA 3 q (by omega))
  have eN : sN (prW σ p) = sN σ := congrArg Int32.toNatClampNeg a0
  have eF : sF (prW σ p) = sF σ := congrArg Int32.toNatClampNeg a13
  generalize prW σ p = τ at *
  refine hW.chg (hW.sc a0 a13 a26 a32 a33) (fun q hq => ?_) (fun q i hq hk => Or.inl ⟨by rw [eP] at hk; exact hk, fun j h1 h2 => aB _ _ (by omega)⟩) (fun q hq => by rw [eP]; exact Nat.le_refl _) (by rw [eF]; exact Nat.le_refl _) (fun q i f hq hi hf => Or.inl (fun j h1 h2 => aB _ _ (by omega))) (fun q i hq hk => Or.inl ⟨by rw [eB] at hk; exact hk, fun j h1 h2 => aB _ _ (by omega)⟩) (fun j => by rw [aB 30 j (by omega)]; exact hW.2.2.2.2.2 j)
  by_cases c : q = p
  · right
    subst c
    obtain ⟨b1, b2, b3, b4, b5, b6⟩ := hW.2.1 q hq
    obtain ⟨w, e32, hw⟩ := hW.1.2.2.2.1
    unfold wfP
    rw [eP, eB, v5, eN, aA 1 _ (by omega), aA 2 _ (by omega), aA 3 _ (by omega), aA 4 _ (by omega), e32]
    exact ⟨b1, b2, b3, b4, fun z => by omega, fun _ => ⟨fun z => absurd z (oI_m1 (by omega)), Or.inr ⟨w, rfl, hw⟩⟩⟩
  · exact Or.inl ⟨fun j h1 h2 => u _ _ (by omega) (by omega), fun z => eN ▸ z, fun z => eN ▸ z⟩
theorem nI_s3 {a b c : Nat} (h : b + c ≤ a) : nI a - nI b - nI c = nI (a - b - c) := by
  rw [nI_Z, nI_Z, nI_Z, nI_Z, iZ_sub, iZ_sub]
  congr 1
  omega
theorem WF_mirror {σ : sg_T} (hW : WF σ) (n8 : sN σ < 8) {p : Nat} (hp : p < sN σ) : WF (mrS σ p) := by
  have u := mrS_x σ p
  have e0 := mrS_0 hW n8 p
  obtain ⟨m1, m2, m3, m5⟩ := mrS_1 σ p
  have mP := mrS_P σ p
  have mF := mrS_F σ p
  have mB := mrS_B σ p
  have v0 : mrS σ p 0 0 = nI (sN σ + 1) := by
    unfold mrS mrA mrB
    rw [if_neg (by omega), if_neg (by omega), if_neg (by omega), su_at, if_neg (by omega), su_at, if_neg (by omega), su_at, if_pos ⟨rfl, rfl⟩]
  obtain ⟨t1, t2, t3, t4⟩ := wf_top hW n8
  have w8 := (hW.2.1 p (by omega)).1.2
  have w20 := (hW.2.1 p (by omega)).2.1.2
  have a13 := u 13 0 (by omega)
  have a26 := u 26 0 (by omega)
  have a32 := u 32 0 (by omega)
  have a33 := u 33 0 (by omega)
  have a30 : ∀ j, mrS σ p 30 j = σ 30 j := fun j => u 30 j (by omega)
  have eF : sF (mrS σ p) = sF σ := congrArg Int32.toNatClampNeg a13
  have eT : sT (mrS σ p) = sT σ := congrArg Int32.toNatClampNeg a26
  have eP : pN (mrS σ p) (sN σ) = pN σ p := congrArg Int32.toNatClampNeg m2
  have eB : bN (mrS σ p) (sN σ) = bN σ p := congrArg Int32.toNatClampNeg m3
  have eQ : ∀ q, ¬ q = sN σ → pN (mrS σ p) q = pN σ q := fun q c => congrArg Int32.toNatClampNeg (u 2 q (by omega))
  have eC : ∀ q, ¬ q = sN σ → bN (mrS σ p) q = bN σ q := fun q c => congrArg Int32.toNatClampNeg (u 3 q (by omega))
  generalize hτ : mrS σ p = τ at *
  refine hW.chg ⟨⟨by rw [v0, e0], by omega⟩, ⟨by rw [a13, eF]; exact hW.1.2.1.1, by rw [eF]; exact hW.1.2.1.2⟩, ⟨by rw [a26, eT]; exact hW.1.2.2.1.1, by rw [eT]; exact hW.1.2.2.1.2⟩, by rw [a32]; exact hW.1.2.2.2.1, by rw [a33]; exact hW.1.2.2.2.2⟩ (fun q hq => ?_) (fun q i hq hi => ?_) (fun q hq => ?_) (by rw [eF]; exact Nat.le_refl _) (fun q i f hq hi hf => ?_) (fun q i hq hi => ?_) (fun j => by rw [a30]; exact hW.2.2.2.2.2 j)
  · by_cases c : q = sN σ
    · right
      subst c
      obtain ⟨b1, b2, b3, b4, b5, b6⟩ := hW.2.1 (sN σ) hq
      obtain ⟨d1, d2, -⟩ := hW.2.1 p (by omega)
      unfold wfP
      rw [eP, eB, m1, m2, m3, m5, e0, u 4 _ (by omega), u 7 _ (by omega)]
      exact ⟨d1, d2, bI_and _, b4, fun z => by omega, fun _ => ⟨fun _ => t4, Or.inl rfl⟩⟩
    · exact Or.inl ⟨fun j h1 h2 => u _ _ (by omega), fun z => by omega, fun z => by omega⟩
  · by_cases c : q = sN σ
    · right
      subst c
      have hi' : i < pN σ p := by rw [eP] at hi; exact hi
      obtain ⟨X, Y, W, H, e1, e2, e3, e4, q1, q2, q3, q4⟩ := hW.2.2.1 p i (by omega) hi'
      refine ⟨60 - X - W, Y, W, H, ?_, ?_, ?_, ?_, q1, q2, by omega, q4⟩
      · rw [mP 9 i (by omega)]
        show 60 - σ 9 (8 * p + i) - σ 11 (8 * p + i) = _
        rw [e1, e3]; exact nI_s3 (a := 60) (b := X) (by omega)
      · rw [mP 10 i (by omega)]; exact e2
      · rw [mP 11 i (by omega)]; exact e3
      · rw [mP 12 i (by omega)]; exact e4
    · have hi' : i < pN σ q := by rw [eQ q c] at hi; exact hi
      have := (hW.2.1 q hq).1.2
      exact Or.inl ⟨hi', fun j h1 h2 => u _ _ (by omega)⟩
  · by_cases c : q = sN σ
    · subst c; omega
    · rw [eQ q c]; exact Nat.le_refl _
  · by_cases c : q = sN σ
    · right
      subst c
      have ei : 96 * p + (12 * i + f) = 12 * (8 * p + i) + f := by omega
      obtain ⟨s1, s2⟩ := hW.2.2.2.1 p i f (by omega) hi hf
      have f14 : τ 14 (12 * (8 * sN σ + i) + f) = 60 - σ 14 (12 * (8 * p + i) + f) - σ 16 (12 * (8 * p + i) + f) := by
        rw [mF 14 i f (by omega), ← ei]; rfl
      have f15 : τ 15 (12 * (8 * sN σ + i) + f) = σ 15 (12 * (8 * p + i) + f) := by rw [mF 15 i f (by omega), ← ei]; rfl
      have f16 : τ 16 (12 * (8 * sN σ + i) + f) = σ 16 (12 * (8 * p + i) + f) := by rw [mF 16 i f (by omega), ← ei]; rfl
      have f18 : τ 18 (12 * (8 * sN σ + i) + f) = σ 18 (12 * (8 * p + i) + f) := by rw [mF 18 i f (by omega), ← ei]; rfl
      unfold wfF
      rw [f14, f15, f16, f18, eP, eF]
      refine ⟨s1, s2.imp_right (fun ⟨g1, g2, X, Y, S, g3, g4, g5, g6, g7, g8, g9⟩ => ⟨g1, g2, 60 - X - S, Y, S, ?_, g4, g5, g6, g7, by omega, g9⟩)⟩
      rw [g3, g5]; exact nI_s3 (a := 60) (b := X) (by omega)
    · exact Or.inl (fun j h1 h2 => u _ _ (by omega))
  · by_cases c : q = sN σ
    · right
      subst c
      have hi' : i < bN σ p := by rw [eB] at hi; exact hi
      obtain ⟨r1, r2, r3, X, Y, W, H, e1, e2, e3, e4, q1, q2, q3, q4, q5, q6, q7, q8, q9⟩ := hW.2.2.2.2.1 p i (by omega) hi'
      have g19 : τ 19 (20 * sN σ + i) = σ 19 (20 * p + i) := by rw [mB 19 i (by omega)]; rfl
      have g20 : τ 20 (20 * sN σ + i) = 60 - σ 20 (20 * p + i) - σ 22 (20 * p + i) := by rw [mB 20 i (by omega)]; rfl
      have g21 : τ 21 (20 * sN σ + i) = σ 21 (20 * p + i) := by rw [mB 21 i (by omega)]; rfl
      have g22 : τ 22 (20 * sN σ + i) = σ 22 (20 * p + i) := by rw [mB 22 i (by omega)]; rfl
      have g23 : τ 23 (20 * sN σ + i) = σ 23 (20 * p + i) := by rw [mB 23 i (by omega)]; rfl
      have g24 : τ 24 (20 * sN σ + i) = σ 24 (20 * p + i) := by rw [mB 24 i (by omega)]; rfl
      have g25 : τ 25 (20 * sN σ + i) = σ 25 (20 * p + i) := by rw [mB 25 i (by omega)]; rfl
      unfold wfL
      rw [g19, g20, g21, g22, g23, g24, g25, eP, eF]
      refine ⟨r1, r2, r3, 180 - X - W, Y, W, H, ?_, e2, e3, e4, by omega, by omega, q3, q4, q5, q6, q7, by omega, by omega⟩
      have ex : σ 20 (20 * p + i) = iZ ((X : Int) - 60) := by
        rw [← iZ_sub, ← nI_Z, ← e1]
        exact (Int32.add_sub_cancel _ _).symm
      rw [ex, e3, nI_Z W, show (60 : Int32) = iZ 60 from rfl, iZ_sub, iZ_sub, iZ_add, nI_Z]
      congr 1
      omega
    · have hi' : i < bN σ q := by rw [eC q c] at hi; exact hi
      have := (hW.2.1 q hq).2.1.2
      exact Or.inl ⟨hi', fun j h1 h2 => u _ _ (by omega)⟩
