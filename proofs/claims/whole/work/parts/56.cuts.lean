def bt (x : Int32) (i : Nat) : Bool := x.toBitVec.getLsbD i
theorem b_ext {x y : Int32} (h : ∀ i, i < 32 → bt x i = bt y i) : x = y := Int32.toBitVec_inj.mp (BitVec.eq_of_getLsbD_eq (fun i hi => h i hi))
theorem b_or (x y : Int32) (i : Nat) : bt (x ||| y) i = (bt x i || bt y i) := by unfold bt; rw [Int32.toBitVec_or, BitVec.getLsbD_or]
theorem b_and (x y : Int32) (i : Nat) : bt (x &&& y) i = (bt x i && bt y i) := by unfold bt; rw [Int32.toBitVec_and, BitVec.getLsbD_and]
theorem b_xor (x y : Int32) (i : Nat) : bt (x ^^^ y) i = (bt x i ^^ bt y i) := by unfold bt; rw [Int32.toBitVec_xor, BitVec.getLsbD_xor]
theorem b_big {x : Int32} {i : Nat} (h : 32 ≤ i) : bt x i = false := BitVec.getLsbD_of_ge _ _ h
theorem b_255 (i : Nat) : bt 255 i = decide (i < 8) := by
  rcases Nat.lt_or_ge i 32 with h | h
  · exact (by decide +kernel : ∀ i, i < 32 → bt 255 i = decide (i < 8)) i h
  · rw [b_big h, decide_eq_false (by omega)]
theorem b_65535 (i : Nat) : bt 65535 i = decide (i < 16) := by
  rcases Nat.lt_or_ge i 32 with h | h
  · exact (by decide +kernel : ∀ i, i < 32 → bt 65535 i = decide (i < 16)) i h
  · rw [b_big h, decide_eq_false (by omega)]
theorem b_m1 : ∀ i, i < 32 → bt (-1) i = true := by decide +kernel
theorem b_0 (i : Nat) : bt 0 i = false := BitVec.getLsbD_zero
theorem s_l : ∀ n, n < 32 → ((nI n &&& 31).toBitVec.smod 32).toNat = n := by decide +kernel
theorem s_u : ∀ n, n < 32 → (((nI n).toUInt32 &&& Int32.toUInt32 31).toBitVec % 32).toNat = n := by decide +kernel
theorem b_shl (n : Nat) (hn : n < 32) (x : Int32) {i : Nat} (hi : i < 32) : bt (x <<< (nI n &&& 31)) i = (decide (n ≤ i) && bt x (i - n)) := by
  unfold bt
  rw [Int32.toBitVec_shiftLeft]
  show (x.toBitVec <<< ((nI n &&& 31).toBitVec.smod 32).toNat).getLsbD i = _
  rw [s_l n hn, BitVec.getLsbD_shiftLeft]
  rcases Nat.lt_or_ge i n with h | h
  · simp [h, Nat.not_le.mpr h]
  · simp [hi, h, Nat.not_lt.mpr h]
theorem b_ushr (n : Nat) (hn : n < 32) (x : Int32) (i : Nat) : bt ((x.toUInt32 >>> ((nI n).toUInt32 &&& Int32.toUInt32 31)).toInt32) i = bt x (n + i) := by
  show (x.toUInt32 >>> ((nI n).toUInt32 &&& Int32.toUInt32 31)).toBitVec.getLsbD i = x.toUInt32.toBitVec.getLsbD (n + i)
  rw [UInt32.toBitVec_shiftRight]
  show (x.toUInt32.toBitVec >>> (((nI n).toUInt32 &&& Int32.toUInt32 31).toBitVec % 32).toNat).getLsbD i = _
  rw [s_u n hn, BitVec.getLsbD_ushiftRight]
theorem b_sshr (n : Nat) (hn : n < 32) (x : Int32) {i : Nat} (hi : i < 32) : bt (x >>> (nI n &&& 31)) i = if n + i < 32 then bt x (n + i) else bt x 31 := by
  unfold bt
  rw [Int32.toBitVec_shiftRight]
  show (x.toBitVec.sshiftRight ((nI n &&& 31).toBitVec.smod 32).toNat).getLsbD i = _
  rw [s_l n hn, BitVec.getLsbD_sshiftRight, BitVec.msb_eq_getLsbD_last]
  simp [hi]
theorem b_shl8 (x : Int32) {i : Nat} (hi : i < 32) : bt (x <<< ((8 : Int32) &&& 31)) i = (decide (8 ≤ i) && bt x (i - 8)) := b_shl 8 (by omega) x hi
theorem b_shl16 (x : Int32) {i : Nat} (hi : i < 32) : bt (x <<< ((16 : Int32) &&& 31)) i = (decide (16 ≤ i) && bt x (i - 16)) := b_shl 16 (by omega) x hi
theorem b_shl24 (x : Int32) {i : Nat} (hi : i < 32) : bt (x <<< ((24 : Int32) &&& 31)) i = (decide (24 ≤ i) && bt x (i - 24)) := b_shl 24 (by omega) x hi
theorem b_sshr8 (x : Int32) {i : Nat} (hi : i < 32) : bt (x >>> ((8 : Int32) &&& 31)) i = if 8 + i < 32 then bt x (8 + i) else bt x 31 := b_sshr 8 (by omega) x hi
theorem b1 : ∀ j, j < 32 → bt 1 j = decide (j = 0) := by decide +kernel
theorem b_bit {i j : Nat} (hi : i < 32) (hj : j < 32) : bt (1 <<< (nI i &&& 31)) j = decide (j = i) := by
  rw [b_shl i hi 1 hj]
  by_cases c : i ≤ j
  · rw [b1 (j - i) (by omega), decide_eq_true c, Bool.true_and]
    by_cases d : j = i
    · rw [decide_eq_true d, decide_eq_true (by omega)]
    · rw [decide_eq_false d, decide_eq_false (by omega)]
  · rw [decide_eq_false c, Bool.false_and, decide_eq_false (by omega)]
theorem b_andn (x y : Int32) {i : Nat} (h : i < 32) : bt (x &&& (y ^^^ -1)) i = (bt x i && !bt y i) := by
  rw [b_and, b_xor, b_m1 i h]
  cases bt x i <;> cases bt y i <;> rfl
theorem and1_bt (x : Int32) : x &&& 1 = 1 ↔ bt x 0 = true := by
  constructor
  · intro z
    have := congrArg (fun y => bt y 0) z
    simp only [b_and, b1 0 (by omega), decide_true, Bool.and_true] at this
    exact this
  · intro z
    apply b_ext
    intro j hj
    rw [b_and, b1 j hj]
    by_cases c : j = 0
    · subst c; rw [z]; rfl
    · rw [decide_eq_false c, Bool.and_false]
theorem inS_bt {s : Int32} {i : Nat} (h : i < 32) : inS s i ↔ bt s i = true := by
  unfold inS
  rw [and1_bt, b_sshr i h s (by omega), if_pos (by omega), Nat.add_zero]
/-- the bits of those of a set that keep p -/
noncomputable def orL (p : Nat → Prop) : Nat → Nat → Int32 → Int32
  | 0, _, m => m
  | k + 1, i, m => orL p k (i + 1) (@ite _ (p i) (Classical.propDecidable _) (m ||| 1 <<< (nI i &&& 31)) m)
theorem orL_t {p : Nat → Prop} {k i : Nat} {m : Int32} (c : p i) : orL p (k + 1) i m = orL p k (i + 1) (m ||| 1 <<< (nI i &&& 31)) := by rw [orL, if_pos c]
theorem orL_f {p : Nat → Prop} {k i : Nat} {m : Int32} (c : ¬ p i) : orL p (k + 1) i m = orL p k (i + 1) m := by rw [orL, if_neg c]
theorem orL_bt {p : Nat → Prop} {j : Nat} (hj : j < 32) : ∀ k i m, i + k ≤ 32 → (bt (orL p k i m) j = true ↔ bt m j = true ∨ (i ≤ j ∧ j < i + k ∧ p j))
  | 0, i, m, _ => by
    rw [orL]
    exact ⟨Or.inl, fun z => z.elim id (fun y => by omega)⟩
  | k + 1, i, m, h => by
    by_cases c : p i
    · rw [orL_t c, orL_bt hj k (i + 1) _ (by omega), b_or, Bool.or_eq_true, b_bit (by omega) hj, decide_eq_true_eq]
      constructor
      · rintro ((a | rfl) | ⟨a, b, d⟩)
        · exact Or.inl a
        · exact Or.inr ⟨Nat.le_refl _, by omega, c⟩
        · exact Or.inr ⟨by omega, by omega, d⟩
      · rintro (a | ⟨a, b, d⟩)
        · exact Or.inl (Or.inl a)
        · by_cases e : j = i
          · exact Or.inl (Or.inr e)
          · exact Or.inr ⟨by omega, by omega, d⟩
    · rw [orL_f c, orL_bt hj k (i + 1) _ (by omega)]
      constructor
      · rintro (a | ⟨a, b, d⟩)
        · exact Or.inl a
        · exact Or.inr ⟨by omega, by omega, d⟩
      · rintro (a | ⟨a, b, d⟩)
        · exact Or.inl a
        · by_cases e : j = i
          · subst e; exact absurd d c
          · exact Or.inr ⟨by omega, by omega, d⟩
theorem orL_0 {p : Nat → Prop} {n j : Nat} (hj : j < 32) (hn : n ≤ 32) : bt (orL p n 0 0) j = true ↔ (j < n ∧ p j) := by
  rw [orL_bt hj n 0 0 (by omega), b_0]
  exact ⟨fun z => z.elim (fun y => by cases y) (fun y => ⟨by omega, y.2.2⟩), fun z => Or.inr ⟨Nat.zero_le _, by omega, z.2⟩⟩
theorem endL_or (E : Nat → Int32) (s e : Int32) : ∀ k i m, endL E s e k i m = orL (fun j => inS s j ∧ E j ≤ e) k i m
  | 0, i, m => by rw [endL, orL]
  | k + 1, i, m => by
    rw [endL]
    by_cases c : (s >>> (nI i &&& 31)) &&& 1 = 1 ∧ E i ≤ e
    · rw [if_pos c, orL_t (p := fun j => inS s j ∧ E j ≤ e) c, endL_or E s e k]
    · rw [if_neg c, orL_f (p := fun j => inS s j ∧ E j ≤ e) c, endL_or E s e k]
/-- a set of panels below n -/
def msk (s : Int32) (n : Nat) : Prop := ∀ i, i < 32 → bt s i = true → i < n
theorem bt_eq {x y : Int32} (h : ∀ i, i < 32 → (bt x i = true ↔ bt y i = true)) : x = y := b_ext fun i hi => by
  have := h i hi
  cases hx : bt x i <;> cases hy : bt y i <;> simp_all
theorem ne0_bt {x : Int32} (h : ¬ x = 0) : ∃ i, i < 32 ∧ bt x i = true := by
  refine Classical.byContradiction fun z => h (b_ext fun i hi => ?_)
  rw [b_0]
  cases e : bt x i with
  | false => rfl
  | true => exact absurd ⟨i, hi, e⟩ z
theorem bt_ne0 {x : Int32} {i : Nat} (h : bt x i = true) : ¬ x = 0 := fun z => by rw [z, b_0] at h; cases h
/-- the least beginning of those that keep p -/
noncomputable def leaL (p : Nat → Prop) (B : Nat → Int32) : Nat → Nat → Int32 → Int32
  | 0, _, m => m
  | k + 1, i, m => leaL p B k (i + 1) (@ite _ (p i ∧ B i < m) (Classical.propDecidable _) (B i) m)
theorem leaL_t {p : Nat → Prop} {B : Nat → Int32} {k i : Nat} {m : Int32} (c : p i ∧ B i < m) : leaL p B (k + 1) i m = leaL p B k (i + 1) (B i) := by rw [leaL, if_pos c]
theorem leaL_f {p : Nat → Prop} {B : Nat → Int32} {k i : Nat} {m : Int32} (c : ¬ (p i ∧ B i < m)) : leaL p B (k + 1) i m = leaL p B k (i + 1) m := by rw [leaL, if_neg c]
theorem leaL_spec {p : Nat → Prop} {B : Nat → Int32} : ∀ k i m, (leaL p B k i m = m ∨ ∃ j, i ≤ j ∧ j < i + k ∧ p j ∧ leaL p B k i m = B j) ∧ leaL p B k i m ≤ m ∧ ∀ j, i ≤ j → j < i + k → p j → leaL p B k i m ≤ B j
  | 0, i, m => ⟨Or.inl (by rw [leaL]), by rw [leaL]; exact Int32.le_refl _, fun j a b => by omega⟩
  | k + 1, i, m => by
    by_cases c : p i ∧ B i < m
    · rw [leaL_t c]
      obtain ⟨x1, x2, x3⟩ := leaL_spec (p := p) (B := B) k (i + 1) (B i)
      refine ⟨Or.inr ?_, by grind, fun j a b d => ?_⟩
      · rcases x1 with x1 | ⟨j, a, b, d, x1⟩
        · exact ⟨i, Nat.le_refl _, by omega, c.1, x1⟩
        · exact ⟨j, by omega, by omega, d, x1⟩
      · by_cases e : j = i
        · subst e; exact x2
        · exact x3 j (by omega) (by omega) d
    · rw [leaL_f c]
      obtain ⟨x1, x2, x3⟩ := leaL_spec (p := p) (B := B) k (i + 1) m
      refine ⟨?_, x2, fun j a b d => ?_⟩
      · rcases x1 with x1 | ⟨j, a, b, d, x1⟩
        · exact Or.inl x1
        · exact Or.inr ⟨j, by omega, by omega, d, x1⟩
      · by_cases e : j = i
        · subst e
          have : ¬ B j < m := fun z => c ⟨d, z⟩
          grind
        · exact x3 j (by omega) (by omega) d
theorem leaL_cg {p q : Nat → Prop} {B : Nat → Int32} : ∀ k i m, (∀ j, i ≤ j → j < i + k → (p j ↔ q j)) → leaL p B k i m = leaL q B k i m
  | 0, i, m, _ => by rw [leaL, leaL]
  | k + 1, i, m, h => by
    have hi := h i (Nat.le_refl _) (by omega)
    by_cases c : p i ∧ B i < m
    · rw [leaL_t c, leaL_t ⟨hi.mp c.1, c.2⟩, leaL_cg k (i + 1) _ (fun j a b => h j (by omega) (by omega))]
    · rw [leaL_f c, leaL_f (fun z => c ⟨hi.mpr z.1, z.2⟩), leaL_cg k (i + 1) _ (fun j a b => h j (by omega) (by omega))]
/-- beginnings and ends that are in order -/
def okBE (n : Nat) (B E : Nat → Int32) : Prop := ∀ i, i < n → 0 ≤ B i ∧ B i < E i ∧ E i ≤ 80
def cutQ (n : Nat) (B E : Nat → Int32) (s e : Int32) : Prop := (∃ i, i < n ∧ inS s i ∧ E i = e) ∧ (∃ i, i < n ∧ inS s i ∧ e ≤ B i) ∧ ∀ i, i < n → inS s i → E i ≤ e ∨ e ≤ B i
noncomputable def gapQ (n : Nat) (B : Nat → Int32) (s e : Int32) : Int32 := leaL (fun i => inS s i ∧ e ≤ B i) B n 0 1000 - e
theorem gutL_bad {B E : Nat → Int32} {s e : Int32} : ∀ k i m, (∃ j, i ≤ j ∧ j < i + k ∧ inS s j ∧ e < E j ∧ B j < e) → gutL B E s e k i m = -1
  | 0, i, m, ⟨j, a, b, _⟩ => by omega
  | k + 1, i, m, ⟨j, a, b, c, d, f⟩ => by
    rw [gutL]
    by_cases g : (s >>> (nI i &&& 31)) &&& 1 = 1 ∧ e < E i
    · rw [if_pos g]
      by_cases q : B i < e
      · rw [if_pos q]
      · rw [if_neg q]
        refine gutL_bad k (i + 1) _ ⟨j, ?_, by omega, c, d, f⟩
        by_cases z : j = i
        · subst z; exact absurd f q
        · omega
    · rw [if_neg g]
      refine gutL_bad k (i + 1) _ ⟨j, ?_, by omega, c, d, f⟩
      by_cases z : j = i
      · subst z; exact absurd ⟨c, d⟩ g
      · omega
theorem gutL_good {B E : Nat → Int32} {s e : Int32} (k : Nat) : ∀ (i : Nat) (m a : Int32), (∀ j, i ≤ j → j < i + k → 0 ≤ B j ∧ B j ≤ 80) → (∀ j, i ≤ j → j < i + k → inS s j → e < E j → ¬ B j < e) → ((m = -1 ∧ a = 1000) ∨ (m = a ∧ 0 ≤ a ∧ a ≤ 80)) →
    gutL B E s e k i m = if leaL (fun j => inS s j ∧ e < E j) B k i a = 1000 then -1 else leaL (fun j => inS s j ∧ e < E j) B k i a - e := by
  induction k with
  | zero =>
    intro i m a _ _ h
    rw [gutL, leaL]
    rcases h with ⟨h1, h2⟩ | ⟨h0, h1, h2⟩
    · rw [if_pos h1, if_pos h2]
    · have n1 : ¬ a = 1000 := by grind
      have n2 : ¬ m = -1 := by grind
      rw [if_neg n1, if_neg n2, h0]
  | succ k ih =>
    intro i m a hB hv h
    rw [gutL]
    have hb := hB i (Nat.le_refl _) (by omega)
    have r1 := fun j (a1 : i + 1 ≤ j) (a2 : j < i + 1 + k) => hB j (by omega) (by omega)
    have r2 := fun j (a1 : i + 1 ≤ j) (a2 : j < i + 1 + k) => hv j (by omega) (by omega)
    by_cases g : (s >>> (nI i &&& 31)) &&& 1 = 1 ∧ e < E i
    · rw [if_pos g, if_neg (hv i (Nat.le_refl _) (by omega) g.1 g.2)]
      by_cases q : B i < a
      · rw [leaL_t (p := fun j => inS s j ∧ e < E j) ⟨g, q⟩]
        refine ih (i + 1) _ _ r1 r2 (Or.inr ⟨?_, hb⟩)
        rcases h with ⟨h1, h2⟩ | ⟨h0, h1, h2⟩
        · rw [if_pos h1]
        · have n2 : ¬ m = -1 := by grind
          rw [if_neg n2]
          unfold miI
          rw [h0, if_pos q]
      · rw [leaL_f (p := fun j => inS s j ∧ e < E j) (fun z => q z.2)]
        refine ih (i + 1) _ _ r1 r2 (Or.inr ?_)
        rcases h with ⟨h1, h2⟩ | ⟨h0, h1, h2⟩
        · have n3 : B i < 1000 := by have := hb.2; grind
          exact absurd (by rw [h2]; exact n3) q
        · have n2 : ¬ m = -1 := by grind
          rw [if_neg n2]
          unfold miI
          rw [h0, if_neg q]
          exact ⟨rfl, h1, h2⟩
    · rw [if_neg g, leaL_f (p := fun j => inS s j ∧ e < E j) (fun z => g z.1)]
      exact ih (i + 1) _ _ r1 r2 h
theorem lea_ne {n : Nat} {B E : Nat → Int32} {p : Nat → Prop} (ok : okBE n B E) : leaL p B n 0 1000 = 1000 ↔ ¬ ∃ i, i < n ∧ p i := by
  obtain ⟨x1, x2, x3⟩ := leaL_spec (p := p) (B := B) n 0 1000
  constructor
  · rintro z ⟨i, hi, hp⟩
    have := x3 i (Nat.zero_le _) (by omega) hp
    have := ok i hi
    grind
  · intro z
    rcases x1 with x1 | ⟨j, -, b, d, x1⟩
    · exact x1
    · exact absurd ⟨j, by omega, d⟩ z
/-- what the class's gutter is at the end of a panel of the set -/
theorem gut_cut {n : Nat} {B E : Nat → Int32} {s e : Int32} (ok : okBE n B E) {j : Nat} (hj : j < n) (hs : inS s j) (he : E j = e) : (cutQ n B E s e → gut n B E s e = gapQ n B s e) ∧ (¬ cutQ n B E s e → gut n B E s e = -1) := by
  have hoj := ok j hj
  have hne : ¬ e = -1 := by grind
  by_cases v : ∃ j, 0 ≤ j ∧ j < 0 + n ∧ inS s j ∧ e < E j ∧ B j < e
  · unfold gut
    rw [if_neg hne, gutL_bad n 0 (-1) v]
    refine ⟨fun c => ?_, fun _ => rfl⟩
    obtain ⟨i, -, a2, a3, a4, a5⟩ := v
    rcases c.2.2 i (by omega) a3 with q | q
    · exact absurd a4 (Int32.not_lt.mpr q)
    · exact absurd a5 (Int32.not_lt.mpr q)
  · have hv : ∀ j, 0 ≤ j → j < 0 + n → inS s j → e < E j → ¬ B j < e := fun i a b c d f => v ⟨i, a, b, c, d, f⟩
    have h1 := gutL_good (B := B) (E := E) (s := s) (e := e) n 0 (-1) 1000 (fun i a b => by have := ok i (by omega); grind) hv (Or.inl ⟨rfl, rfl⟩)
    have h2 : leaL (fun j => inS s j ∧ e < E j) B n 0 1000 = leaL (fun i => inS s i ∧ e ≤ B i) B n 0 1000 := by
      refine leaL_cg n 0 1000 (fun i a b => ?_)
      have := ok i (by omega)
      exact ⟨fun z => ⟨z.1, Int32.not_lt.mp (hv i a b z.1 z.2)⟩, fun z => ⟨z.1, by have := z.2; grind⟩⟩
    unfold gut
    rw [if_neg hne, h1, h2]
    refine ⟨fun c => ?_, fun c => ?_⟩
    · rw [if_neg (fun z => (lea_ne ok).mp z c.2.1)]
      rfl
    · rw [if_pos ((lea_ne ok).mpr (fun ⟨i, a, b⟩ => c ⟨⟨j, hj, hs, he⟩, ⟨i, a, b⟩, fun i hi hsi => ?_⟩))]
      by_cases q : e < E i
      · exact Or.inr (Int32.not_lt.mp (hv i (Nat.zero_le _) (by omega) hsi q))
      · exact Or.inl (Int32.not_lt.mp q)
theorem gap_pos {n : Nat} {B E : Nat → Int32} {s e : Int32} (ok : okBE n B E) (c : cutQ n B E s e) : 0 ≤ gapQ n B s e := by
  obtain ⟨⟨j, hj, hs, he⟩, c2, -⟩ := c
  have hoj := ok j hj
  unfold gapQ
  obtain ⟨x1, x2, x3⟩ := leaL_spec (p := fun i => inS s i ∧ e ≤ B i) (B := B) n 0 1000
  have hne : ¬ leaL (fun i => inS s i ∧ e ≤ B i) B n 0 1000 = 1000 := fun z => (lea_ne ok).mp z c2
  rcases x1 with x1 | ⟨i, -, b, d, x1⟩
  · exact absurd x1 hne
  · have hoi := ok i (by omega)
    rw [x1]
    have := d.2
    grind
