theorem WF_tell {σ : sg_T} (hW : WF σ) {f t v r : Int32} (hr : r &&& 1 = r) (n : sT σ < 40) : WF (tlS σ f t v r) := by
  have u : ∀ j i, ¬ (27 ≤ j ∧ j ≤ 31) → ¬ (j = 26 ∧ i = 0) → tlS σ f t v r j i = σ j i := fun j i h1 h2 => by
    unfold tlS
    rw [su_at, if_neg h2, su_at, if_neg (by omega), su_at, if_neg (by omega), su_at, if_neg (by omega), su_at, if_neg (by omega), su_at, if_neg (by omega)]
  have v26 : tlS σ f t v r 26 0 = nI (sT σ + 1) := by unfold tlS; rw [su_at, if_pos ⟨rfl, rfl⟩]
  have v30 : ∀ j, tlS σ f t v r 30 j &&& 1 = tlS σ f t v r 30 j := fun j => by
    have e : tlS σ f t v r 30 j = if j = sT σ then r else σ 30 j := by unfold tlS; simp [su_at]
    rw [e]
    split
    · exact hr
    · exact hW.2.2.2.2.2 j
  have a0 := u 0 0 (by omega) (by omega)
  have a13 := u 13 0 (by omega) (by omega)
  have a32 := u 32 0 (by omega) (by omega)
  have a33 := u 33 0 (by omega) (by omega)
  have aP : ∀ j q, 1 ≤ j → j ≤ 25 → tlS σ f t v r j q = σ j q := fun j q _ _ => u j q (by omega) (by omega)
  have eP : ∀ q, pN (tlS σ f t v r) q = pN σ q := fun q => congrArg Int32.toNatClampNeg (aP 2 q (by omega) (by omega))
  have eB : ∀ q, bN (tlS σ f t v r) q = bN σ q := fun q => congrArg Int32.toNatClampNeg (aP 3 q (by omega) (by omega))
  have eN : sN (tlS σ f t v r) = sN σ := congrArg Int32.toNatClampNeg a0
  have eF : sF (tlS σ f t v r) = sF σ := congrArg Int32.toNatClampNeg a13
  have eT : sT (tlS σ f t v r) = sT σ + 1 := by
    show (tlS σ f t v r 26 0).toNatClampNeg = _
    rw [v26]; exact cl_nI (by omega)
  generalize tlS σ f t v r = τ at *
  exact hW.chg ⟨⟨by rw [a0, eN]; exact hW.1.1.1, by rw [eN]; exact hW.1.1.2⟩, ⟨by rw [a13, eF]; exact hW.1.2.1.1, by rw [eF]; exact hW.1.2.1.2⟩, ⟨by rw [v26, eT], by omega⟩, by rw [a32]; exact hW.1.2.2.2.1, by rw [a33]; exact hW.1.2.2.2.2⟩ (fun q hq => Or.inl ⟨fun j h1 h2 => aP j q h1 (by omega), fun z => eN ▸ z, fun z => eN ▸ z⟩) (fun q i hq hk => Or.inl ⟨by rw [eP] at hk; exact hk, fun j h1 h2 => aP _ _ (by omega) (by omega)⟩) (fun q hq => by rw [eP]; exact Nat.le_refl _) (by rw [eF]; exact Nat.le_refl _) (fun p i f _ _ _ => Or.inl (fun j h1 h2 => aP _ _ (by omega) (by omega))) (fun q i hq hk => Or.inl ⟨by rw [eB] at hk; exact hk, fun j h1 h2 => aP _ _ (by omega) (by omega)⟩) v30
theorem WF_draw {σ : sg_T} (hW : WF σ) {p k g : Nat} (hp : p < sN σ) (hk : k < pN σ p) (hg : g < sF σ) {x y s e ch : Int32} (ok : dwO σ (8 * p + k) x y s e) (hch : ch &&& 1 = ch) : WF (dwS σ (12 * (8 * p + k) + g) x y s e ch) := by
  have h8 := hW.1.1.2
  have w8 := (hW.2.1 p (by omega)).1.2
  have f12 := hW.1.2.1.2
  have u : ∀ j i, ¬ (14 ≤ j ∧ j ≤ 18 ∧ i = 12 * (8 * p + k) + g) → dwS σ (12 * (8 * p + k) + g) x y s e ch j i = σ j i := fun j i d => by
    unfold dwS
    rw [su_at, if_neg (by omega), su_at, if_neg (by omega), su_at, if_neg (by omega), su_at, if_neg (by omega), su_at, if_neg (by omega)]
  obtain ⟨v14, v15, v16, -, v17, v18⟩ := dwS_v σ (12 * (8 * p + k) + g) x y s e ch
  have a0 := u 0 0 (by omega)
  have a13 := u 13 0 (by omega)
  have a26 := u 26 0 (by omega)
  have a32 := u 32 0 (by omega)
  have a33 := u 33 0 (by omega)
  have a30 : ∀ j, dwS σ (12 * (8 * p + k) + g) x y s e ch 30 j = σ 30 j := fun j => u 30 j (by omega)
  have aP : ∀ j q, 1 ≤ j → j ≤ 12 → dwS σ (12 * (8 * p + k) + g) x y s e ch j q = σ j q := fun j q _ _ => u j q (by omega)
  have aB : ∀ j q, 19 ≤ j → j ≤ 25 → dwS σ (12 * (8 * p + k) + g) x y s e ch j q = σ j q := fun j q _ _ => u j q (by omega)
  have eP : ∀ q, pN (dwS σ (12 * (8 * p + k) + g) x y s e ch) q = pN σ q := fun q => congrArg Int32.toNatClampNeg (aP 2 q (by omega) (by omega))
  have eB : ∀ q, bN (dwS σ (12 * (8 * p + k) + g) x y s e ch) q = bN σ q := fun q => congrArg Int32.toNatClampNeg (aP 3 q (by omega) (by omega))
  have eN : sN (dwS σ (12 * (8 * p + k) + g) x y s e ch) = sN σ := congrArg Int32.toNatClampNeg a0
  have eF : sF (dwS σ (12 * (8 * p + k) + g) x y s e ch) = sF σ := congrArg Int32.toNatClampNeg a13
  generalize dwS σ (12 * (8 * p + k) + g) x y s e ch = τ at *
  refine hW.chg (hW.sc a0 a13 a26 a32 a33) (fun q hq => Or.inl ⟨fun j h1 h2 => aP j q h1 (by omega), fun z => eN ▸ z, fun z => eN ▸ z⟩) (fun q i hq hk => Or.inl ⟨by rw [eP] at hk; exact hk, fun j h1 h2 => aP _ _ (by omega) h2⟩) (fun q hq => by rw [eP]; exact Nat.le_refl _) (by rw [eF]; exact Nat.le_refl _) (fun q i f hq hi hf => ?_) (fun q i hq hk => Or.inl ⟨by rw [eB] at hk; exact hk, fun j h1 h2 => aB _ _ h1 h2⟩) (fun j => by rw [a30]; exact hW.2.2.2.2.2 j)
  by_cases c : 12 * (8 * q + i) + f = 12 * (8 * p + k) + g
  · right
    obtain ⟨rfl, rfl, rfl⟩ : q = p ∧ i = k ∧ f = g := by omega
    obtain ⟨X, Y, W, H, e1, e2, e3, e4, q1, q2, q3, q4⟩ := hW.2.2.1 q i (by omega) hk
    obtain ⟨⟨⟨o1, o2⟩, o3, o4, o5, o6⟩, -⟩ := ok
    obtain ⟨S, S0, S1, rfl⟩ := rng2 (b := 2) (a := 20) o1 o2 (by omega) (by omega)
    rw [e1] at o3 o5
    rw [e2] at o4 o6
    rw [e3] at o5
    rw [e4] at o6
    obtain ⟨A, A1, A2, rfl⟩ := mid_rng o3 o5 (by omega) (by omega) (by omega)
    obtain ⟨B, B1, B2, rfl⟩ := mid_rng o4 o6 (by omega) (by omega) (by omega)
    exact ⟨by rw [v18]; exact hch, Or.inr ⟨by rw [eP]; exact hk, by rw [eF]; exact hg, A, B, S, v14, v15, v16, S0, S1, by omega, by omega⟩⟩
  · exact Or.inl (fun j h1 h2 => u _ _ (by omega))
theorem WF_bal {σ : sg_T} (hW : WF σ) {p k : Nat} (hp : p < sN σ) (hk : k < pN σ p) (n : bN σ p < 20) {x y a b f l : Int32} (ok : blO x y a b l) (hf : f = -1 ∨ fgM σ f) : WF (blS σ p (nI k) x y a b f l) := by
  have h8 := hW.1.1.2
  have u : ∀ j i, ¬ (19 ≤ j ∧ j ≤ 25 ∧ i = 20 * p + bN σ p) → ¬ (j = 3 ∧ i = p) → blS σ p (nI k) x y a b f l j i = σ j i := fun j i d d2 => by
    unfold blS
    rw [su_at, if_neg d2, su_at, if_neg (by omega), su_at, if_neg (by omega), su_at, if_neg (by omega), su_at, if_neg (by omega), su_at, if_neg (by omega), su_at, if_neg (by omega), su_at, if_neg (by omega)]
  have v3 : blS σ p (nI k) x y a b f l 3 p = nI (bN σ p + 1) := by unfold blS; rw [su_at, if_pos ⟨rfl, rfl⟩]
  have v19 : blS σ p (nI k) x y a b f l 19 (20 * p + bN σ p) = nI k := by unfold blS; simp [su_at]
  have v20 : blS σ p (nI k) x y a b f l 20 (20 * p + bN σ p) = x := by unfold blS; simp [su_at]
  have v21 : blS σ p (nI k) x y a b f l 21 (20 * p + bN σ p) = y := by unfold blS; simp [su_at]
  have v22 : blS σ p (nI k) x y a b f l 22 (20 * p + bN σ p) = a := by unfold blS; simp [su_at]
  have v23 : blS σ p (nI k) x y a b f l 23 (20 * p + bN σ p) = b := by unfold blS; simp [su_at]
  have v24 : blS σ p (nI k) x y a b f l 24 (20 * p + bN σ p) = f := by unfold blS; simp [su_at]
  have v25 : blS σ p (nI k) x y a b f l 25 (20 * p + bN σ p) = l := by unfold blS; simp [su_at]
  have a0 := u 0 0 (by omega) (by omega)
  have a13 := u 13 0 (by omega) (by omega)
  have a26 := u 26 0 (by omega) (by omega)
  have a32 := u 32 0 (by omega) (by omega)
  have a33 := u 33 0 (by omega) (by omega)
  have a30 : ∀ j, blS σ p (nI k) x y a b f l 30 j = σ 30 j := fun j => u 30 j (by omega) (by omega)
  have a2 : ∀ j, blS σ p (nI k) x y a b f l 2 j = σ 2 j := fun j => u 2 j (by omega) (by omega)
  have eP : ∀ q, pN (blS σ p (nI k) x y a b f l) q = pN σ q := fun q => congrArg Int32.toNatClampNeg (a2 q)
  have eN : sN (blS σ p (nI k) x y a b f l) = sN σ := congrArg Int32.toNatClampNeg a0
  have eF : sF (blS σ p (nI k) x y a b f l) = sF σ := congrArg Int32.toNatClampNeg a13
  have eB : bN (blS σ p (nI k) x y a b f l) p = bN σ p + 1 := by
    show (blS σ p (nI k) x y a b f l 3 p).toNatClampNeg = _
    rw [v3]; exact cl_nI (by omega)
  have eC : ∀ q, ¬ q = p → bN (blS σ p (nI k) x y a b f l) q = bN σ q := fun q c => congrArg Int32.toNatClampNeg (u 3 q (by omega) (by omega))
  generalize blS σ p (nI k) x y a b f l = τ at *
  refine hW.chg (hW.sc a0 a13 a26 a32 a33) (fun q hq => ?_) (fun q i hq hk => Or.inl ⟨by rw [eP] at hk; exact hk, fun j h1 h2 => u _ _ (by omega) (by omega)⟩) (fun q hq => by rw [eP]; exact Nat.le_refl _) (by rw [eF]; exact Nat.le_refl _) (fun q i f hq hi hf => Or.inl (fun j h1 h2 => u _ _ (by omega) (by omega))) (fun q i hq hi => ?_) (fun j => by rw [a30]; exact hW.2.2.2.2.2 j)
  · by_cases c : q = p
    · right
      subst c
      obtain ⟨b1, b2, b3, b4, b5, b6⟩ := hW.2.1 q hq
      unfold wfP
      rw [eP, eB, v3, eN, a2, u 1 _ (by omega) (by omega), u 4 _ (by omega) (by omega), u 5 _ (by omega) (by omega), u 7 _ (by omega) (by omega)]
      exact ⟨b1, ⟨rfl, by omega⟩, b3, b4, fun z => by omega, b6⟩
    · exact Or.inl ⟨fun j h1 h2 => u _ _ (by omega) (by omega), fun z => eN ▸ z, fun z => eN ▸ z⟩
  · by_cases c : q = p
    · subst c
      by_cases ci : i = bN σ q
      · right
        subst ci
        obtain ⟨⟨o1, o2⟩, ⟨o3, o4⟩, ⟨o5, o6⟩, ⟨o7, o8⟩, o9, o10⟩ := ok
        obtain ⟨X, X1, rfl⟩ := rng (a := 59) o1 o2 (by omega)
        obtain ⟨Y, Y1, rfl⟩ := rng (a := 79) o3 o4 (by omega)
        obtain ⟨A, A0, A1, rfl⟩ := rng2 (b := 2) (a := 60) o5 o6 (by omega) (by omega)
        obtain ⟨B, B0, B1, rfl⟩ := rng2 (b := 2) (a := 80) o7 o8 (by omega) (by omega)
        obtain ⟨L, L0, L1, rfl⟩ := rng2 (b := 1) (a := 200) o9 o10 (by omega) (by omega)
        refine ⟨⟨k, v19, by rw [eP]; exact hk⟩, ?_, ⟨L, v25, L0, L1⟩, X + 60, Y, A, B, ?_, v21, v22, v23, by omega, by omega, by omega, A0, A1, B0, B1, by omega, by omega⟩
        · rw [v24, eF]
          exact hf.imp_right (fun z => (fgM_iff hW).mp z)
        · rw [v20]; exact nI_add X 60
      · exact Or.inl ⟨by rw [eB] at hi; omega, fun j h1 h2 => u _ _ (by omega) (by omega)⟩
    · have hi' : i < bN σ q := by rw [eC q c] at hi; exact hi
      have := (hW.2.1 q hq).2.1.2
      exact Or.inl ⟨hi', fun j h1 h2 => u _ _ (by omega) (by omega)⟩
theorem WF_move {σ : sg_T} (hW : WF σ) {p k : Nat} (hp : p < sN σ) (hk : k < bN σ p) {x y : Int32} (ok : (0 ≤ x ∧ x ≤ 59) ∧ 0 ≤ y ∧ y ≤ 79) : WF (mvS σ (20 * p + k) x y) := by
  have h8 := hW.1.1.2
  have w20 := (hW.2.1 p (by omega)).2.1.2
  have u : ∀ j i, ¬ (20 ≤ j ∧ j ≤ 21 ∧ i = 20 * p + k) → mvS σ (20 * p + k) x y j i = σ j i := fun j i d => by
    unfold mvS
    rw [su_at, if_neg (by omega), su_at, if_neg (by omega)]
  obtain ⟨v20, v21, v22, v23⟩ := mvS_v σ (20 * p + k) x y
  have a0 := u 0 0 (by omega)
  have a13 := u 13 0 (by omega)
  have a26 := u 26 0 (by omega)
  have a32 := u 32 0 (by omega)
  have a33 := u 33 0 (by omega)
  have a30 : ∀ j, mvS σ (20 * p + k) x y 30 j = σ 30 j := fun j => u 30 j (by omega)
  have aP : ∀ j q, 1 ≤ j → j ≤ 18 → mvS σ (20 * p + k) x y j q = σ j q := fun j q _ _ => u j q (by omega)
  have eP : ∀ q, pN (mvS σ (20 * p + k) x y) q = pN σ q := fun q => congrArg Int32.toNatClampNeg (aP 2 q (by omega) (by omega))
  have eB : ∀ q, bN (mvS σ (20 * p + k) x y) q = bN σ q := fun q => congrArg Int32.toNatClampNeg (aP 3 q (by omega) (by omega))
  have eN : sN (mvS σ (20 * p + k) x y) = sN σ := congrArg Int32.toNatClampNeg a0
  have eF : sF (mvS σ (20 * p + k) x y) = sF σ := congrArg Int32.toNatClampNeg a13
  generalize mvS σ (20 * p + k) x y = τ at *
  refine hW.chg (hW.sc a0 a13 a26 a32 a33) (fun q hq => Or.inl ⟨fun j h1 h2 => aP j q h1 (by omega), fun z => eN ▸ z, fun z => eN ▸ z⟩) (fun q i hq hk => Or.inl ⟨by rw [eP] at hk; exact hk, fun j h1 h2 => aP _ _ (by omega) (by omega)⟩) (fun q hq => by rw [eP]; exact Nat.le_refl _) (by rw [eF]; exact Nat.le_refl _) (fun q i f hq hi hf => Or.inl (fun j h1 h2 => aP _ _ (by omega) (by omega))) (fun q i hq hi => ?_) (fun j => by rw [a30]; exact hW.2.2.2.2.2 j)
  have hi' : i < bN σ q := by rw [eB] at hi; exact hi
  have b20 := (hW.2.1 q hq).2.1.2
  by_cases c : 20 * q + i = 20 * p + k
  · right
    obtain ⟨rfl, rfl⟩ : q = p ∧ i = k := by omega
    obtain ⟨t1, t2, t3, X, Y, W, H, e1, e2, e3, e4, q1, q2, q3, q4, q5, q6, q7, q8, q9⟩ := hW.2.2.2.2.1 q i hq hk
    obtain ⟨⟨o1, o2⟩, o3, o4⟩ := ok
    obtain ⟨A, A1, rfl⟩ := rng (a := 59) o1 o2 (by omega)
    obtain ⟨B, B1, rfl⟩ := rng (a := 79) o3 o4 (by omega)
    refine ⟨by rw [u 19 _ (by omega), eP]; exact t1, by rw [u 24 _ (by omega), eF]; exact t2, by rw [u 25 _ (by omega)]; exact t3, A + 60, B, W, H, ?_, v21, by rw [v22]; exact e3, by rw [v23]; exact e4, by omega, by omega, by omega, q4, q5, q6, q7, by omega, by omega⟩
    rw [v20]; exact nI_add A 60
  · exact Or.inl ⟨hi', fun j h1 h2 => u _ _ (by omega)⟩
