/-- b is the best of the lines in C, its gutter g; none: -1 both -/
def Best (C : Int32 → Prop) (G : Int32 → Int32) (gr : Prop) (b g : Int32) : Prop := (b = -1 ∧ g = -1 ∧ ∀ e, ¬ C e) ∨ (C b ∧ g = G b ∧ ∀ e, C e → G e < g ∨ (G e = g ∧ (gr → e ≤ b) ∧ (¬ gr → b ≤ e)))
theorem Best.uniq {C : Int32 → Prop} {G : Int32 → Int32} {gr : Prop} {b g b' g' : Int32} (x : Best C G gr b g) (y : Best C G gr b' g') : b = b' ∧ g = g' := by
  rcases x with ⟨x1, x2, x3⟩ | ⟨x1, x2, x3⟩ <;> rcases y with ⟨y1, y2, y3⟩ | ⟨y1, y2, y3⟩
  · exact ⟨x1.trans y1.symm, x2.trans y2.symm⟩
  · exact absurd y1 (x3 _)
  · exact absurd x1 (y3 _)
  · have a := x3 _ y1
    have c := y3 _ x1
    have d : b = b' := by
      by_cases e : gr
      · rcases a with a | ⟨a1, a2, -⟩ <;> rcases c with c | ⟨c1, c2, -⟩ <;> grind
      · rcases a with a | ⟨a1, -, a2⟩ <;> rcases c with c | ⟨c1, -, c2⟩ <;> grind
    exact ⟨d, by rw [x2, y2, d]⟩
theorem Best.cg {C C' : Int32 → Prop} {G : Int32 → Int32} {gr : Prop} {b g : Int32} (x : Best C G gr b g) (h : ∀ e, C e ↔ C' e) : Best C' G gr b g := by
  rcases x with ⟨x1, x2, x3⟩ | ⟨x1, x2, x3⟩
  · exact Or.inl ⟨x1, x2, fun e z => x3 e ((h e).mpr z)⟩
  · exact Or.inr ⟨(h b).mp x1, x2, fun e z => x3 e ((h e).mpr z)⟩
theorem Best.none {C : Int32 → Prop} {G : Int32 → Int32} {gr : Prop} (h : ∀ e, ¬ C e) : Best C G gr (-1) (-1) := Or.inl ⟨rfl, rfl, h⟩
/-- one more line, that is better -/
theorem Best.upd {C C' : Int32 → Prop} {G : Int32 → Int32} {gr : Prop} {b g x : Int32} (z : Best C G gr b g) (h : ∀ e, C' e ↔ C e ∨ e = x) (c : g < G x ∨ (G x = g ∧ (gr → b < x) ∧ (¬ gr → x < b))) : Best C' G gr x (G x) := by
  refine Or.inr ⟨(h x).mpr (Or.inr rfl), rfl, fun e he => ?_⟩
  rcases (h e).mp he with he | rfl
  · rcases z with ⟨z1, z2, z3⟩ | ⟨z1, z2, z3⟩
    · exact absurd he (z3 e)
    · have a := z3 e he
      by_cases q : gr
      · rcases a with a | ⟨a1, a2, -⟩ <;> rcases c with c | ⟨c1, c2, -⟩ <;> grind
      · rcases a with a | ⟨a1, -, a2⟩ <;> rcases c with c | ⟨c1, -, c2⟩ <;> grind
  · exact Or.inr ⟨rfl, fun _ => Int32.le_refl _, fun _ => Int32.le_refl _⟩
/-- one more line, that is not -/
theorem Best.keep {C C' : Int32 → Prop} {G : Int32 → Int32} {gr : Prop} {b g x : Int32} (z : Best C G gr b g) (h : ∀ e, C' e ↔ C e ∨ e = x) (h0 : 0 ≤ G x) (c : ¬ (g < G x ∨ (G x = g ∧ (gr → b < x) ∧ (¬ gr → x < b)))) : Best C' G gr b g := by
  rcases z with ⟨z1, z2, z3⟩ | ⟨z1, z2, z3⟩
  · have : g < G x := by rw [z2]; grind
    exact absurd (Or.inl this) c
  · refine Or.inr ⟨(h b).mpr (Or.inl z1), z2, fun e he => ?_⟩
    rcases (h e).mp he with he | rfl
    · exact z3 e he
    · by_cases q : gr
      · simp only [q, true_implies, not_true_eq_false, false_implies, and_true] at c ⊢
        by_cases d : G e < g
        · exact Or.inl d
        · have d2 : G e = g := by grind
          exact Or.inr ⟨d2, Int32.not_lt.mp (fun y => c (Or.inr ⟨d2, y⟩))⟩
      · simp only [q, false_implies, not_false_eq_true, true_implies, true_and] at c ⊢
        by_cases d : G e < g
        · exact Or.inl d
        · have d2 : G e = g := by grind
          exact Or.inr ⟨d2, Int32.not_lt.mp (fun y => c (Or.inr ⟨d2, y⟩))⟩
/-- the class's choice of a cut is the best one -/
theorem cutL_best {n : Nat} {B E : Nat → Int32} {s gr : Int32} (ok : okBE n B E) (k : Nat) : ∀ (i : Nat) (b g : Int32), i + k = n → Best (fun e => cutQ n B E s e ∧ ∃ j, j < i ∧ inS s j ∧ E j = e) (gapQ n B s) (¬ gr = 0) b g → ∃ g', Best (cutQ n B E s) (gapQ n B s) (¬ gr = 0) (cutL n B E s gr k i b g) g' := by
  induction k with
  | zero =>
    intro i b g hi z
    rw [cutL]
    refine ⟨g, z.cg fun e => ⟨fun y => y.1, fun y => ⟨y, ?_⟩⟩⟩
    obtain ⟨⟨j, a, c, d⟩, -⟩ := y
    exact ⟨j, by omega, c, d⟩
  | succ k ih =>
    intro i b g hi z
    rw [cutL]
    have hin : i < n := by omega
    by_cases cs : (s >>> (nI i &&& 31)) &&& 1 = 1
    · have gS : gutS n B E s i = gut n B E s (E i) := if_pos cs
      obtain ⟨q1, q2⟩ := gut_cut ok hin cs rfl
      by_cases cq : cutQ n B E s (E i)
      · have p0 := gap_pos ok cq
        have hC : ∀ e, (cutQ n B E s e ∧ ∃ j, j < i + 1 ∧ inS s j ∧ E j = e) ↔ (cutQ n B E s e ∧ ∃ j, j < i ∧ inS s j ∧ E j = e) ∨ e = E i := by
          intro e
          constructor
          · rintro ⟨a, j, b1, c, d⟩
            by_cases f : j = i
            · subst f; exact Or.inr d.symm
            · exact Or.inl ⟨a, j, by omega, c, d⟩
          · rintro (⟨a, j, b1, c, d⟩ | rfl)
            · exact ⟨a, j, by omega, c, d⟩
            · exact ⟨cq, i, by omega, cs, rfl⟩
        rw [gS, q1 cq]
        have ne1 : ¬ gapQ n B s (E i) = -1 := by grind
        by_cases c : g < gapQ n B s (E i) ∨ (gapQ n B s (E i) = g ∧ (¬ gr = 0 → b < E i) ∧ (¬ ¬ gr = 0 → E i < b))
        · rw [if_pos (by
            rcases c with c | ⟨c1, c2, c3⟩
            · exact Or.inl c
            · refine Or.inr ⟨ne1, c1, ?_⟩
              split
              · next y => exact c3 (fun w => w y)
              · next y => exact c2 y)]
          exact ih (i + 1) _ _ (by omega) (z.upd hC c)
        · rw [if_neg (by
            intro w
            apply c
            rcases w with w | ⟨-, w2, w3⟩
            · exact Or.inl w
            · refine Or.inr ⟨w2, fun y => ?_, fun y => ?_⟩
              · rw [if_neg y] at w3; exact w3
              · rw [if_pos (Classical.not_not.mp y)] at w3; exact w3)]
          exact ih (i + 1) _ _ (by omega) (z.keep hC p0 c)
      · rw [gS, q2 cq]
        have hb : ¬ g < -1 := by
          rcases z with ⟨-, z2, -⟩ | ⟨z1, z2, -⟩
          · rw [z2]; decide
          · have := gap_pos ok z1.1; grind
        rw [if_neg (by
          rintro (w | ⟨w, -⟩)
          · exact hb w
          · exact w rfl)]
        refine ih (i + 1) _ _ (by omega) (z.cg fun e => ⟨fun ⟨a, j, b1, c, d⟩ => ⟨a, j, by omega, c, d⟩, fun ⟨a, j, b1, c, d⟩ => ⟨a, j, ?_, c, d⟩⟩)
        by_cases f : j = i
        · subst f; rw [d] at cq; exact absurd a cq
        · omega
    · have gS : gutS n B E s i = -1 := if_neg cs
      rw [gS]
      have hb : ¬ g < -1 := by
        rcases z with ⟨-, z2, -⟩ | ⟨z1, z2, -⟩
        · rw [z2]; decide
        · have := gap_pos ok z1.1; grind
      rw [if_neg (by
        rintro (w | ⟨w, -⟩)
        · exact hb w
        · exact w rfl)]
      refine ih (i + 1) _ _ (by omega) (z.cg fun e => ⟨fun ⟨a, j, b1, c, d⟩ => ⟨a, j, by omega, c, d⟩, fun ⟨a, j, b1, c, d⟩ => ⟨a, j, ?_, c, d⟩⟩)
      by_cases f : j = i
      · subst f; exact absurd c cs
      · omega
theorem cut_best {n : Nat} {B E : Nat → Int32} {s gr : Int32} (ok : okBE n B E) : Best (cutQ n B E s) (gapQ n B s) (¬ gr = 0) (cutL n B E s gr n 0 (-1) (-1)) (gut n B E s (cutL n B E s gr n 0 (-1) (-1))) := by
  obtain ⟨g, z⟩ := cutL_best (s := s) (gr := gr) ok n 0 (-1) (-1) (by omega) (Best.none fun e => fun ⟨_, j, a, _⟩ => by omega)
  rcases z with ⟨z1, z2, z3⟩ | ⟨z1, z2, z3⟩
  · rw [z1]
    exact Or.inl ⟨rfl, by unfold gut; rw [if_pos rfl], z3⟩
  · obtain ⟨j, hj, hs, he⟩ := z1.1
    have e1 := (gut_cut ok hj hs he).1 z1
    exact Or.inr ⟨z1, e1, fun e he => by rw [e1, ← z2]; exact z3 e he⟩
/-- how many of a set there are -/
def cnt (s : Int32) : Nat → Nat
  | 0 => 0
  | n + 1 => cnt s n + (if bt s n = true then 1 else 0)
theorem cnt_split {s a b : Int32} : ∀ n, (∀ i, i < n → (bt s i = true ↔ bt a i = true ∨ bt b i = true) ∧ ¬ (bt a i = true ∧ bt b i = true)) → cnt s n = cnt a n + cnt b n
  | 0, _ => rfl
  | n + 1, h => by
    have h1 := cnt_split n (fun i hi => h i (by omega))
    obtain ⟨h2, h3⟩ := h n (by omega)
    rw [cnt, cnt, cnt, h1]
    by_cases x : bt a n = true <;> by_cases y : bt b n = true
    · exact absurd ⟨x, y⟩ h3
    · rw [if_pos (h2.mpr (Or.inl x)), if_pos x, if_neg y]; omega
    · rw [if_pos (h2.mpr (Or.inr y)), if_neg x, if_pos y]; omega
    · rw [if_neg (fun z => (h2.mp z).elim x y), if_neg x, if_neg y]; omega
theorem cnt_pos {s : Int32} {i : Nat} : ∀ n, i < n → bt s i = true → 1 ≤ cnt s n
  | 0, h, _ => by omega
  | n + 1, h, e => by
    rw [cnt]
    by_cases c : i = n
    · subst c; rw [if_pos e]; omega
    · have := cnt_pos n (by omega) e; omega
theorem cnt_le (s : Int32) : ∀ n, cnt s n ≤ n
  | 0 => Nat.le_refl _
  | n + 1 => by
    rw [cnt]
    have := cnt_le s n
    split <;> omega
theorem cnt_zero {s : Int32} : ∀ n, cnt s n = 0 → ∀ i, i < n → ¬ bt s i = true
  | n, h, i, hi, e => by
    have := cnt_pos n hi e
    omega
/-- a set of at most eight, written out -/
theorem msk_nI {s : Int32} {n : Nat} (h : msk s n) (hn : n ≤ 8) : ∃ a : Nat, a < 256 ∧ s = nI a := by
  refine ⟨s.toBitVec.toNat, ?_, ?_⟩
  · have : s.toBitVec.toNat < 2 ^ 8 := by
      apply Nat.lt_pow_two_of_testBit
      intro i hi
      rw [BitVec.testBit_toNat]
      cases e : s.toBitVec.getLsbD i with
      | false => rfl
      | true =>
        have hi32 : i < 32 := by
          refine Classical.byContradiction fun q => ?_
          rw [BitVec.getLsbD_of_ge _ _ (by omega)] at e
          cases e
        have := h i hi32 e
        omega
    omega
  · apply Int32.toBitVec_inj.mp
    show s.toBitVec = BitVec.ofNat 32 s.toBitVec.toNat
    simp
theorem cnt_bc : ∀ a, a < 256 → (bcI (nI a) < 2 ↔ cnt (nI a) 8 < 2) ∧ (nI a &&& (nI a - 1) = 0 ↔ cnt (nI a) 8 < 2) := by decide +kernel
theorem msk_bc {s : Int32} {n : Nat} (h : msk s n) (hn : n ≤ 8) : (bcI s < 2 ↔ cnt s 8 < 2) ∧ (s &&& (s - 1) = 0 ↔ cnt s 8 < 2) := by
  obtain ⟨a, ha, rfl⟩ := msk_nI h hn
  exact cnt_bc a ha
