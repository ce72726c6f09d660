theorem rng {v : Int32} {a : Nat} (h0 : 0 ≤ v) (h1 : v ≤ nI a) (ha : a < 900) : ∃ x, x ≤ a ∧ v = nI x := by
  obtain ⟨e1, e2⟩ := nI_lt8 (n := a + 1) (Int32.not_lt.mpr h0) (Int32.lt_of_le_of_lt h1 ((ltI (by omega) (by omega)).mpr (by omega))) (by omega)
  exact ⟨_, by omega, e2⟩
theorem rng2 {v : Int32} {b a : Nat} (h0 : nI b ≤ v) (h1 : v ≤ nI a) (ha : a < 900) (hb : b < 900) : ∃ x, b ≤ x ∧ x ≤ a ∧ v = nI x := by
  have h00 : nI 0 ≤ nI b := (leI (by omega) (by omega)).mpr (by omega)
  obtain ⟨x, e1, e2⟩ := rng (Int32.le_trans h00 h0) h1 ha
  exact ⟨x, (leI (by omega) (by omega)).mp (e2 ▸ h0), e1, e2⟩
theorem mid_rng {x : Int32} {A B S : Nat} (h1 : nI A ≤ x) (h2 : x ≤ nI A + nI B - nI S) (hA : A < 900) (hB : B < 900) (hS : S < 900) : ∃ X, A ≤ X ∧ X + S ≤ A + B ∧ x = nI X := by
  rw [nI_Z, Int32.le_iff_toInt_le, iZ_t (by omega)] at h1
  rw [nI_Z A, nI_Z B, nI_Z S, iZ_add, iZ_sub, Int32.le_iff_toInt_le, iZ_t (by omega)] at h2
  refine ⟨x.toInt.toNat, by omega, by omega, ?_⟩
  rw [nI_Z, Int.toNat_of_nonneg (by omega), iZ_i]
/-- what has changed stands, what hasn't stood -/
theorem WF.chg {σ σ' : sg_T} (hW : WF σ)
    (hA : (σ' 0 0 = nI (sN σ') ∧ sN σ' ≤ 8) ∧ (σ' 13 0 = nI (sF σ') ∧ sF σ' ≤ 12) ∧ (σ' 26 0 = nI (sT σ') ∧ sT σ' ≤ 40) ∧ (∃ w, σ' 32 0 = nI w ∧ w ≤ 200) ∧ ∃ w, σ' 33 0 = nI w ∧ 1 ≤ w ∧ w ≤ 5)
    (hB : ∀ p, p < 8 → ((∀ j, 1 ≤ j → j ≤ 7 → σ' j p = σ j p) ∧ (sN σ' ≤ p → sN σ ≤ p) ∧ (p < sN σ' → p < sN σ)) ∨ wfP σ' p)
    (hC : ∀ p k, p < 8 → k < pN σ' p → (k < pN σ p ∧ ∀ j, 9 ≤ j → j ≤ 12 → σ' j (8 * p + k) = σ j (8 * p + k)) ∨ wfB σ' (8 * p + k))
    (hD0 : ∀ p, p < 8 → pN σ p ≤ pN σ' p) (hF0 : sF σ ≤ sF σ')
    (hD : ∀ p k f, p < 8 → k < 8 → f < 12 → (∀ j, 14 ≤ j → j ≤ 18 → σ' j (12 * (8 * p + k) + f) = σ j (12 * (8 * p + k) + f)) ∨ wfF σ' p k f)
    (hE : ∀ p k, p < 8 → k < bN σ' p → (k < bN σ p ∧ ∀ j, 19 ≤ j → j ≤ 25 → σ' j (20 * p + k) = σ j (20 * p + k)) ∨ wfL σ' p k)
    (hG : ∀ j, σ' 30 j &&& 1 = σ' 30 j) : WF σ' := by
  obtain ⟨a, b, c, d, e, g⟩ := hW
  refine ⟨hA, fun p hp => ?_, fun p k hp hk => ?_, fun p k f hp hk hf => ?_, fun p k hp hk => ?_, hG⟩
  · rcases hB p hp with ⟨h1, h2, h3⟩ | h
    · obtain ⟨b1, b2, b3, b4, b5, b6⟩ := b p hp
      have eP : pN σ' p = pN σ p := by unfold pN; rw [h1 2 (by omega) (by omega)]
      have eB : bN σ' p = bN σ p := by unfold bN; rw [h1 3 (by omega) (by omega)]
      unfold wfP
      rw [eP, eB, h1 1 (by omega) (by omega), h1 2 (by omega) (by omega), h1 3 (by omega) (by omega), h1 4 (by omega) (by omega), h1 5 (by omega) (by omega), h1 7 (by omega) (by omega)]
      exact ⟨b1, b2, b3, b4, fun z => b5 (h2 z), fun z => b6 (h3 z)⟩
    · exact h
  · rcases hC p k hp hk with ⟨h1, h2⟩ | h
    · have := c p k hp h1
      unfold wfB at this ⊢
      rw [h2 9 (by omega) (by omega), h2 10 (by omega) (by omega), h2 11 (by omega) (by omega), h2 12 (by omega) (by omega)]
      exact this
    · exact h
  · rcases hD p k f hp hk hf with h | h
    · have := d p k f hp hk hf
      unfold wfF at this ⊢
      rw [h 14 (by omega) (by omega), h 15 (by omega) (by omega), h 16 (by omega) (by omega), h 18 (by omega) (by omega)]
      obtain ⟨t1, t2⟩ := this
      exact ⟨t1, t2.imp_right (fun ⟨u1, u2, u3⟩ => ⟨Nat.lt_of_lt_of_le u1 (hD0 p hp), Nat.lt_of_lt_of_le u2 hF0, u3⟩)⟩
    · exact h
  · rcases hE p k hp hk with ⟨h1, h2⟩ | h
    · have := e p k hp h1
      unfold wfL at this ⊢
      rw [h2 19 (by omega) (by omega), h2 20 (by omega) (by omega), h2 21 (by omega) (by omega), h2 22 (by omega) (by omega), h2 23 (by omega) (by omega), h2 24 (by omega) (by omega), h2 25 (by omega) (by omega)]
      obtain ⟨⟨j, t1, t2⟩, t3, t4⟩ := this
      exact ⟨⟨j, t1, Nat.lt_of_lt_of_le t2 (hD0 p hp)⟩, t3.imp_right (fun ⟨f, u1, u2⟩ => ⟨f, Nat.lt_of_lt_of_le u1 hF0, u2⟩), t4⟩
    · exact h
/-- numbers of the house stay -/
theorem WF.sc {σ σ' : sg_T} (hW : WF σ) (e0 : σ' 0 0 = σ 0 0) (e13 : σ' 13 0 = σ 13 0) (e26 : σ' 26 0 = σ 26 0) (e32 : σ' 32 0 = σ 32 0) (e33 : σ' 33 0 = σ 33 0) : (σ' 0 0 = nI (sN σ') ∧ sN σ' ≤ 8) ∧ (σ' 13 0 = nI (sF σ') ∧ sF σ' ≤ 12) ∧ (σ' 26 0 = nI (sT σ') ∧ sT σ' ≤ 40) ∧ (∃ w, σ' 32 0 = nI w ∧ w ≤ 200) ∧ ∃ w, σ' 33 0 = nI w ∧ 1 ≤ w ∧ w ≤ 5 := by
  unfold sN sF sT
  rw [e0, e13, e26, e32, e33]
  exact hW.1
theorem WF_page {σ : sg_T} (hW : WF σ) (n8 : sN σ < 8) {l : Int32} (hl : l &&& 1 = l) : WF (pgS σ l) := by
  have u : ∀ k i, ¬ (k = 0 ∧ i = 0) → ¬ (k = 5 ∧ i = sN σ) → ¬ (k = 1 ∧ i = sN σ) → pgS σ l k i = σ k i := fun k i a b d => by
    unfold pgS
    rw [su_at, if_neg a, su_at, if_neg b, su_at, if_neg d]
  have v0 : pgS σ l 0 0 = nI (sN σ + 1) := by unfold pgS; rw [su_at, if_pos ⟨rfl, rfl⟩]
  have v5 : pgS σ l 5 (sN σ) = -1 := by unfold pgS; rw [su_at, if_neg (by omega), su_at, if_pos ⟨rfl, rfl⟩]
  have v1 : pgS σ l 1 (sN σ) = l := by unfold pgS; rw [su_at, if_neg (by omega), su_at, if_neg (by omega), su_at, if_pos ⟨rfl, rfl⟩]
  have e0 : sN (pgS σ l) = sN σ + 1 := by unfold sN; rw [v0]; exact cl_nI (by have : (σ 0 0).toNatClampNeg < 8 := n8; unfold sN; omega)
  have eF : sF (pgS σ l) = sF σ := by unfold sF; rw [u 13 0 (by omega) (by omega) (by omega)]
  have eT : sT (pgS σ l) = sT σ := by unfold sT; rw [u 26 0 (by omega) (by omega) (by omega)]
  have eP : ∀ p, pN (pgS σ l) p = pN σ p := fun p => by unfold pN; rw [u 2 p (by omega) (by omega) (by omega)]
  have eB : ∀ p, bN (pgS σ l) p = bN σ p := fun p => by unfold bN; rw [u 3 p (by omega) (by omega) (by omega)]
  obtain ⟨a1, a2, a3, a4, a5⟩ := hW.1
  generalize hτ : pgS σ l = τ at *
  refine hW.chg ⟨⟨by rw [v0, e0], by omega⟩, ⟨by rw [eF, u 13 0 (by omega) (by omega) (by omega)]; exact a2.1, by rw [eF]; exact a2.2⟩, ⟨by rw [eT, u 26 0 (by omega) (by omega) (by omega)]; exact a3.1, by rw [eT]; exact a3.2⟩, by rw [u 32 0 (by omega) (by omega) (by omega)]; exact a4, by rw [u 33 0 (by omega) (by omega) (by omega)]; exact a5⟩ (fun p hp => ?_) (fun p k hp hk => Or.inl ⟨by rw [eP] at hk; exact hk, fun j h1 h2 => u _ _ (by omega) (by omega) (by omega)⟩) (fun p hp => by rw [eP]; exact Nat.le_refl _) (by rw [eF]; exact Nat.le_refl _) (fun p k f _ _ _ => Or.inl (fun j h1 h2 => u _ _ (by omega) (by omega) (by omega))) (fun p k hp hk => Or.inl ⟨by rw [eB] at hk; exact hk, fun j h1 h2 => u _ _ (by omega) (by omega) (by omega)⟩) (fun j => by rw [u 30 j (by omega) (by omega) (by omega)]; exact hW.2.2.2.2.2 j)
  by_cases c : p = sN σ
  · right
    subst c
    obtain ⟨b1, b2, b3, b4, b5, b6⟩ := hW.2.1 (sN σ) hp
    obtain ⟨t1, t2, t3, t4⟩ := wf_top hW hp
    unfold wfP
    rw [eP, eB, v1, v5, u 2 _ (by omega) (by omega) (by omega), u 3 _ (by omega) (by omega) (by omega), u 4 _ (by omega) (by omega) (by omega), u 7 _ (by omega) (by omega) (by omega)]
    exact ⟨b1, b2, hl, b4, fun z => by omega, fun _ => ⟨fun _ => t4, Or.inl rfl⟩⟩
  · exact Or.inl ⟨fun j h1 h2 => u _ _ (by omega) (by omega) (by omega), fun z => by omega, fun z => by omega⟩
theorem WF_panel {σ : sg_T} (hW : WF σ) {p : Nat} (hp : p < sN σ) {x y a b : Int32} (ok : okP x y a b) (n8 : pN σ p < 8) : WF (pnS σ p x y a b) := by
  have h8 := hW.1.1.2
  have u : ∀ j i, ¬ (9 ≤ j ∧ j ≤ 12 ∧ i = 8 * p + pN σ p) → ¬ (j = 2 ∧ i = p) → pnS σ p x y a b j i = σ j i := fun j i h1 h2 => by
    unfold pnS
    rw [su_at, if_neg h2, su_at, if_neg (by omega), su_at, if_neg (by omega), su_at, if_neg (by omega), su_at, if_neg (by omega)]
  have v9 : pnS σ p x y a b 9 (8 * p + pN σ p) = x := by unfold pnS; simp [su_at]
  have v10 : pnS σ p x y a b 10 (8 * p + pN σ p) = y := by unfold pnS; simp [su_at]
  have v11 : pnS σ p x y a b 11 (8 * p + pN σ p) = a := by unfold pnS; simp [su_at]
  have v12 : pnS σ p x y a b 12 (8 * p + pN σ p) = b := by unfold pnS; simp [su_at]
  have v2 : pnS σ p x y a b 2 p = nI (pN σ p + 1) := by unfold pnS; rw [su_at, if_pos ⟨rfl, rfl⟩]
  have eP : pN (pnS σ p x y a b) p = pN σ p + 1 := by
    show (pnS σ p x y a b 2 p).toNatClampNeg = _
    rw [v2]; exact cl_nI (by omega)
  have eQ : ∀ q, ¬ q = p → pN (pnS σ p x y a b) q = pN σ q := fun q n => by
    show (pnS σ p x y a b 2 q).toNatClampNeg = _
    rw [u 2 q (by omega) (by omega)]; rfl
  have eB : ∀ q, bN (pnS σ p x y a b) q = bN σ q := fun q => by
    show (pnS σ p x y a b 3 q).toNatClampNeg = _
    rw [u 3 q (by omega) (by omega)]; rfl
  have eN : sN (pnS σ p x y a b) = sN σ := by
    show (pnS σ p x y a b 0 0).toNatClampNeg = _
    rw [u 0 0 (by omega) (by omega)]; rfl
  have eF : sF (pnS σ p x y a b) = sF σ := by
    show (pnS σ p x y a b 13 0).toNatClampNeg = _
    rw [u 13 0 (by omega) (by omega)]; rfl
  generalize hτ : pnS σ p x y a b = τ at *
  refine hW.chg (hW.sc (u _ _ (by omega) (by omega)) (u _ _ (by omega) (by omega)) (u _ _ (by omega) (by omega)) (u _ _ (by omega) (by omega)) (u _ _ (by omega) (by omega))) (fun q hq => ?_) (fun q k hq hk => ?_) (fun q hq => ?_) (by rw [eF]; exact Nat.le_refl _) (fun p k f _ _ _ => Or.inl (fun j h1 h2 => u _ _ (by omega) (by omega))) (fun q k hq hk => Or.inl ⟨by rw [eB] at hk; exact hk, fun j h1 h2 => u _ _ (by omega) (by omega)⟩) (fun j => by rw [u 30 j (by omega) (by omega)]; exact hW.2.2.2.2.2 j)
  · by_cases c : q = p
    · right
      subst c
      obtain ⟨b1, b2, b3, b4, b5, b6⟩ := hW.2.1 q hq
      unfold wfP
      rw [eP, eB, v2, eN, u 1 _ (by omega) (by omega), u 3 _ (by omega) (by omega), u 4 _ (by omega) (by omega), u 5 _ (by omega) (by omega), u 7 _ (by omega) (by omega)]
      exact ⟨⟨rfl, by omega⟩, b2, b3, b4, fun z => by omega, b6⟩
    · exact Or.inl ⟨fun j h1 h2 => u _ _ (by omega) (by omega), fun z => by omega, fun z => by omega⟩
  · by_cases c : q = p
    · subst c
      by_cases ck : k = pN σ q
      · right
        subst ck
        obtain ⟨⟨o1, o2⟩, ⟨o3, o4⟩, ⟨o5, o6⟩, ⟨o7, o8⟩, o9, o10⟩ := ok
        obtain ⟨X, X1, rfl⟩ := rng (a := 59) o1 o2 (by omega)
        obtain ⟨Y, Y1, rfl⟩ := rng (a := 79) o3 o4 (by omega)
        obtain ⟨A, A0, A1, rfl⟩ := rng2 (b := 4) (a := 60) o5 o6 (by omega) (by omega)
        obtain ⟨B, B0, B1, rfl⟩ := rng2 (b := 4) (a := 80) o7 o8 (by omega) (by omega)
        rw [nI_add] at o9 o10
        have g1 := (leI (a := X + A) (b := 60) (by omega) (by omega)).mp o9
        have g2 := (leI (a := Y + B) (b := 80) (by omega) (by omega)).mp o10
        exact ⟨X, Y, A, B, v9, v10, v11, v12, A0, B0, g1, g2⟩
      · exact Or.inl ⟨by rw [eP] at hk; omega, fun j h1 h2 => u _ _ (by omega) (by omega)⟩
    · have hk' : k < pN σ q := by rw [eQ q c] at hk; exact hk
      have := (hW.2.1 q hq).1.2
      exact Or.inl ⟨hk', fun j h1 h2 => u _ _ (by omega) (by omega)⟩
  · by_cases c : q = p
    · subst c; rw [eP]; omega
    · rw [eQ q c]; exact Nat.le_refl _
theorem WF_turn {σ : sg_T} (hW : WF σ) {p : Nat} (hp : p < sN σ) {l : Int32} (hl : l &&& 1 = l) : WF (su σ 1 p l) := by
  have h8 := hW.1.1.2
  have u : ∀ j i, ¬ (j = 1 ∧ i = p) → su σ 1 p l j i = σ j i := fun j i h => by rw [su_at, if_neg h]
  have v1 : su σ 1 p l 1 p = l := by rw [su_at, if_pos ⟨rfl, rfl⟩]
  have eP : ∀ q, pN (su σ 1 p l) q = pN σ q := fun q => by
    show (su σ 1 p l 2 q).toNatClampNeg = _
    rw [u 2 q (by omega)]; rfl
  have eB : ∀ q, bN (su σ 1 p l) q = bN σ q := fun q => by
    show (su σ 1 p l 3 q).toNatClampNeg = _
    rw [u 3 q (by omega)]; rfl
  have eN : sN (su σ 1 p l) = sN σ := by
    show (su σ 1 p l 0 0).toNatClampNeg = _
    rw [u 0 0 (by omega)]; rfl
  have eF : sF (su σ 1 p l) = sF σ := by
    show (su σ 1 p l 13 0).toNatClampNeg = _
    rw [u 13 0 (by omega)]; rfl
  generalize hτ : su σ 1 p l = τ at *
  refine hW.chg (hW.sc (u _ _ (by omega)) (u _ _ (by omega)) (u _ _ (by omega)) (u _ _ (by omega)) (u _ _ (by omega))) (fun q hq => ?_) (fun q k hq hk => Or.inl ⟨by rw [eP] at hk; exact hk, fun j h1 h2 => u _ _ (by omega)⟩) (fun q hq => by rw [eP]; exact Nat.le_refl _) (by rw [eF]; exact Nat.le_refl _) (fun p k f _ _ _ => Or.inl (fun j h1 h2 => u _ _ (by omega))) (fun q k hq hk => Or.inl ⟨by rw [eB] at hk; exact hk, fun j h1 h2 => u _ _ (by omega)⟩) (fun j => by rw [u 30 j (by omega)]; exact hW.2.2.2.2.2 j)
  by_cases c : q = p
  · right
    subst c
    obtain ⟨b1, b2, b3, b4, b5, b6⟩ := hW.2.1 q hq
    unfold wfP
    rw [eP, eB, v1, eN, u 2 _ (by omega), u 3 _ (by omega), u 4 _ (by omega), u 5 _ (by omega), u 7 _ (by omega)]
    exact ⟨b1, b2, hl, b4, b5, b6⟩
  · exact Or.inl ⟨fun j h1 h2 => u _ _ (by omega), fun z => by omega, fun z => by omega⟩
/-- a number of the house is another -/
theorem WF_num {σ : sg_T} (hW : WF σ) {k w : Nat} (hA : (k = 13 ∧ sF σ ≤ w ∧ w ≤ 12) ∨ (k = 32 ∧ w ≤ 200) ∨ (k = 33 ∧ 1 ≤ w ∧ w ≤ 5)) : WF (su σ k 0 (nI w)) := by
  have u : ∀ j i, ¬ (j = k ∧ i = 0) → su σ k 0 (nI w) j i = σ j i := fun j i h => by rw [su_at, if_neg h]
  have v1 : su σ k 0 (nI w) k 0 = nI w := by rw [su_at, if_pos ⟨rfl, rfl⟩]
  have a0 := u 0 0 (by omega)
  have a26 := u 26 0 (by omega)
  have a2 : ∀ q, su σ k 0 (nI w) 2 q = σ 2 q := fun q => u 2 q (by omega)
  have a3 : ∀ q, su σ k 0 (nI w) 3 q = σ 3 q := fun q => u 3 q (by omega)
  have a30 : ∀ q, su σ k 0 (nI w) 30 q = σ 30 q := fun q => u 30 q (by omega)
  have aP : ∀ j q, 1 ≤ j → j ≤ 12 → su σ k 0 (nI w) j q = σ j q := fun j q _ _ => u j q (by omega)
  have aB : ∀ j q, 14 ≤ j → j ≤ 25 → su σ k 0 (nI w) j q = σ j q := fun j q _ _ => u j q (by omega)
  have eP : ∀ q, pN (su σ k 0 (nI w)) q = pN σ q := fun q => congrArg Int32.toNatClampNeg (a2 q)
  have eB : ∀ q, bN (su σ k 0 (nI w)) q = bN σ q := fun q => congrArg Int32.toNatClampNeg (a3 q)
  have eN : sN (su σ k 0 (nI w)) = sN σ := congrArg Int32.toNatClampNeg a0
  have eT : sT (su σ k 0 (nI w)) = sT σ := congrArg Int32.toNatClampNeg a26
  have b13 : su σ k 0 (nI w) 13 0 = nI (if k = 13 then w else sF σ) := by
    by_cases c : k = 13
    · subst c; rw [v1, if_pos rfl]
    · rw [u 13 0 (by omega), if_neg c]; exact hW.1.2.1.1
  have e32 : ∃ w', su σ k 0 (nI w) 32 0 = nI w' ∧ w' ≤ 200 := by
    by_cases c : k = 32
    · subst c; exact ⟨w, v1, by omega⟩
    · rw [u 32 0 (by omega)]; exact hW.1.2.2.2.1
  have e33 : ∃ w', su σ k 0 (nI w) 33 0 = nI w' ∧ 1 ≤ w' ∧ w' ≤ 5 := by
    by_cases c : k = 33
    · subst c; exact ⟨w, v1, by omega, by omega⟩
    · rw [u 33 0 (by omega)]; exact hW.1.2.2.2.2
  have l12 : (if k = 13 then w else sF σ) ≤ 12 ∧ sF σ ≤ (if k = 13 then w else sF σ) := by
    have := hW.1.2.1.2
    split <;> omega
  have f4 : sF (su σ k 0 (nI w)) = (if k = 13 then w else sF σ) := by
    show (su σ k 0 (nI w) 13 0).toNatClampNeg = _
    rw [b13]; exact cl_nI (by omega)
  generalize (if k = 13 then w else sF σ) = f at *
  generalize su σ k 0 (nI w) = τ at *
  refine hW.chg ⟨⟨by rw [a0, eN]; exact hW.1.1.1, by rw [eN]; exact hW.1.1.2⟩, ⟨by rw [b13, f4], by rw [f4]; exact l12.1⟩, ⟨by rw [a26, eT]; exact hW.1.2.2.1.1, by rw [eT]; exact hW.1.2.2.1.2⟩, e32, e33⟩ (fun q hq => Or.inl ⟨fun j h1 h2 => aP j q h1 (by omega), fun z => eN ▸ z, fun z => eN ▸ z⟩) (fun q i hq hk => Or.inl ⟨by rw [eP] at hk; exact hk, fun j h1 h2 => aP _ _ (by omega) h2⟩) (fun q hq => by rw [eP]; exact Nat.le_refl _) (by rw [f4]; exact l12.2) (fun p i f _ _ _ => Or.inl (fun j h1 h2 => aB _ _ h1 (by omega))) (fun q i hq hk => Or.inl ⟨by rw [eB] at hk; exact hk, fun j h1 h2 => aB _ _ (by omega) h2⟩) (fun j => by rw [a30 j]; exact hW.2.2.2.2.2 j)
