/-! the taking of a set: its pieces by name, its fuel, its steps -/
noncomputable def gAC (n : Nat) (B E : Int32 → Nat → Int32) (l s : Int32) : Int32 := cutL n (B 1) (E 1) s (bI (¬ l = 0 ∧ (1 : Int32) = 0)) n 0 (-1) (-1)
noncomputable def gDW (n : Nat) (B E : Int32 → Nat → Int32) (l s : Int32) : Int32 := cutL n (B 0) (E 0) s (bI (¬ l = 0 ∧ (0 : Int32) = 0)) n 0 (-1) (-1)
noncomputable def gGA (n : Nat) (B E : Int32 → Nat → Int32) (l s : Int32) : Int32 := gut n (B 1) (E 1) s (gAC n B E l s)
noncomputable def gGD (n : Nat) (B E : Int32 → Nat → Int32) (l s : Int32) : Int32 := gut n (B 0) (E 0) s (gDW n B E l s)
noncomputable def gEA (n : Nat) (B E : Int32 → Nat → Int32) (l s : Int32) : Int32 := endL (E 1) s (gAC n B E l s) n 0 0
noncomputable def gED (n : Nat) (B E : Int32 → Nat → Int32) (l s : Int32) : Int32 := endL (E 0) s (gDW n B E l s) n 0 0
theorem takeG_eq (n : Nat) (B E : Int32 → Nat → Int32) (l : Int32) : takeG n B E l = takeR (fun s L => tbnL s n 0 L) (gAC n B E l) (gDW n B E l) (gGA n B E l) (gGD n B E l) (gEA n B E l) (gED n B E l) l := rfl
theorem cnt_mono (s : Int32) {a b : Nat} (h : a ≤ b) : cnt s a ≤ cnt s b := by
  induction b with
  | zero => rw [show a = 0 by omega]; exact Nat.le_refl _
  | succ b ih =>
    by_cases c : a = b + 1
    · rw [c]; exact Nat.le_refl _
    · have := ih (by omega)
      rw [cnt]; omega
section TAKE
variable {n : Nat} {B E : Int32 → Nat → Int32} {l : Int32} (hn : n ≤ 8) (ok : ∀ c, okBE n (B c) (E c))
theorem bestA (ok : ∀ c, okBE n (B c) (E c)) (s : Int32) : Best (cutQ n (B 1) (E 1) s) (gapQ n (B 1) s) False (gAC n B E l s) (gGA n B E l s) := by
  have h := cut_best (s := s) (gr := bI (¬ l = 0 ∧ (1 : Int32) = 0)) (ok 1)
  have e : (¬ bI (¬ l = 0 ∧ (1 : Int32) = 0) = 0) = False := by
    refine eq_false (fun z => z ((bI_0 _).mpr (fun y => absurd y.2 (by decide))))
  rw [e] at h
  exact h
theorem bestD (ok : ∀ c, okBE n (B c) (E c)) (s : Int32) : Best (cutQ n (B 0) (E 0) s) (gapQ n (B 0) s) (¬ l = 0) (gDW n B E l s) (gGD n B E l s) := by
  have h := cut_best (s := s) (gr := bI (¬ l = 0 ∧ (0 : Int32) = 0)) (ok 0)
  have e : (¬ bI (¬ l = 0 ∧ (0 : Int32) = 0) = 0) = (¬ l = 0) := by
    refine propext ⟨fun z y => z ((bI_0 _).mpr (fun w => w.1 y)), fun z y => (bI_0 _).mp y ⟨z, rfl⟩⟩
  rw [e] at h
  exact h
theorem Best.m1 {B E : Nat → Int32} {s : Int32} {gr : Prop} {b g : Int32} (ok : okBE n B E) (h : Best (cutQ n B E s) (gapQ n B s) gr b g) : b = -1 ↔ g = -1 := by
  rcases h with ⟨h1, h2, -⟩ | ⟨h1, h2, -⟩
  · exact ⟨fun _ => h2, fun _ => h1⟩
  · have p0 := gap_pos ok h1
    obtain ⟨j, hj, -, he⟩ := h1.1
    have hoj := ok j hj
    refine ⟨fun z => ?_, fun z => ?_⟩
    · exfalso; grind
    · exfalso; grind
theorem Best.cut {B E : Nat → Int32} {s : Int32} {gr : Prop} {b g : Int32} (h : Best (cutQ n B E s) (gapQ n B s) gr b g) (c : ¬ g = -1) : cutQ n B E s b := by
  rcases h with ⟨h1, h2, -⟩ | ⟨h1, h2, -⟩
  · exact absurd h2 c
  · exact h1
/-- what a cut makes of a set -/
theorem cut_parts {B E : Nat → Int32} {s b : Int32} (hn : n ≤ 8) (ok : okBE n B E) (hs : msk s n) (c : cutQ n B E s b) :
    msk (endL E s b n 0 0) n ∧ msk (s &&& (endL E s b n 0 0 ^^^ -1)) n ∧ cnt s 8 = cnt (endL E s b n 0 0) 8 + cnt (s &&& (endL E s b n 0 0 ^^^ -1)) 8 ∧ 1 ≤ cnt (endL E s b n 0 0) 8 ∧ 1 ≤ cnt (s &&& (endL E s b n 0 0 ^^^ -1)) 8 ∧
    s &&& ((s &&& (endL E s b n 0 0 ^^^ -1)) ^^^ -1) = endL E s b n 0 0 ∧ ∀ i, i < 32 → (bt (endL E s b n 0 0) i = true → bt s i = true) := by
  rw [endL_or]
  generalize hx : orL (fun j => inS s j ∧ E j ≤ b) n 0 0 = x
  have bx : ∀ i, i < 32 → (bt x i = true ↔ i < n ∧ inS s i ∧ E i ≤ b) := fun i hi => by rw [← hx]; exact orL_0 hi (by omega)
  have br : ∀ i, i < 32 → (bt (s &&& (x ^^^ -1)) i = true ↔ bt s i = true ∧ ¬ bt x i = true) := fun i hi => by
    rw [b_andn s x hi, Bool.and_eq_true, Bool.not_eq_true', Bool.not_eq_true]
  have xs : ∀ i, i < 32 → bt x i = true → bt s i = true := fun i hi z => (inS_bt hi).mp ((bx i hi).mp z).2.1
  refine ⟨fun i hi z => ((bx i hi).mp z).1, fun i hi z => hs i hi ((br i hi).mp z).1, ?_, ?_, ?_, ?_, xs⟩
  · refine cnt_split 8 (fun i hi => ⟨⟨fun z => ?_, fun z => ?_⟩, fun z => ((br i (by omega)).mp z.2).2 z.1⟩)
    · by_cases y : bt x i = true
      · exact Or.inl y
      · exact Or.inr ((br i (by omega)).mpr ⟨z, y⟩)
    · rcases z with z | z
      · exact xs i (by omega) z
      · exact ((br i (by omega)).mp z).1
  · obtain ⟨i, a, b1, d⟩ := c.1
    exact cnt_pos 8 (by omega) ((bx i (by omega)).mpr ⟨a, b1, by rw [d]; exact Int32.le_refl _⟩)
  · obtain ⟨i, a, b1, d⟩ := c.2.1
    have hoi := ok i a
    refine cnt_pos (i := i) 8 (by omega) ((br i (by omega)).mpr ⟨(inS_bt (by omega)).mp b1, fun z => ?_⟩)
    have := ((bx i (by omega)).mp z).2.2
    grind
  · refine bt_eq fun i hi => ?_
    rw [b_andn s _ hi, Bool.and_eq_true, Bool.not_eq_true', ← Bool.not_eq_true, br i hi]
    constructor
    · rintro ⟨z1, z2⟩
      exact Classical.byContradiction fun y => z2 ⟨z1, y⟩
    · intro z
      exact ⟨xs i hi z, fun y => y.2 z⟩
/-- the fuel does not matter -/
theorem take_fuel (hn : n ≤ 8) (ok : ∀ c, okBE n (B c) (E c)) (f : Nat) : ∀ (f' : Nat) (s : Int32) (L : List Nat) (d : Int32), msk s n → cnt s 8 ≤ f → cnt s 8 ≤ f' → takeG n B E l f s L d = takeG n B E l f' s L d := by
  rw [takeG_eq]
  induction f with
  | zero =>
    intro f' s L d hs h1 h2
    match f' with
    | 0 => rfl
    | f' + 1 =>
      have := (msk_bc hs hn).1.mpr (by omega)
      rw [takeR, takeR, if_pos this]
  | succ f ih =>
    intro f' s L d hs h1 h2
    match f' with
    | 0 =>
      have := (msk_bc hs hn).1.mpr (by omega)
      rw [takeR, takeR, if_pos this]
    | f' + 1 =>
      rw [takeR, takeR]
      by_cases c1 : bcI s < 2
      · rw [if_pos c1, if_pos c1]
      · rw [if_neg c1, if_neg c1]
        by_cases c2 : gAC n B E l s = -1 ∧ gDW n B E l s = -1
        · rw [if_pos c2, if_pos c2]
        · rw [if_neg c2, if_neg c2]
          have bA := bestA (l := l) ok s
          have bD := bestD (l := l) ok s
          have mA := bA.m1 (ok 1)
          have mD := bD.m1 (ok 0)
          by_cases c3 : gGD n B E l s ≤ gGA n B E l s
          · rw [if_pos c3, if_pos c3]
            have cA : ¬ gGA n B E l s = -1 := by
              intro z
              have : gGD n B E l s = -1 := by
                rcases bD with ⟨-, z2, -⟩ | ⟨z1, z2, -⟩
                · exact z2
                · have := gap_pos (ok 0) z1; grind
              exact c2 ⟨mA.mpr z, mD.mpr this⟩
            obtain ⟨p1, p2, p3, p4, p5, -⟩ := cut_parts hn (ok 1) hs (bA.cut cA)
            rw [show gEA n B E l s = endL (E 1) s (gAC n B E l s) n 0 0 from rfl]
            rw [ih f' _ _ _ p1 (by omega) (by omega), ih f' _ _ _ p2 (by omega) (by omega)]
          · rw [if_neg c3, if_neg c3]
            have cD : ¬ gGD n B E l s = -1 := by
              intro z
              have : -1 ≤ gGA n B E l s := by
                rcases bA with ⟨-, z2, -⟩ | ⟨z1, z2, -⟩
                · rw [z2]; decide
                · have := gap_pos (ok 1) z1; grind
              rw [z] at c3
              exact c3 this
            obtain ⟨p1, p2, p3, p4, p5, -⟩ := cut_parts hn (ok 0) hs (bD.cut cD)
            rw [show gED n B E l s = endL (E 0) s (gDW n B E l s) n 0 0 from rfl]
            by_cases c4 : l = 0
            · rw [if_pos c4, if_pos c4, ih f' _ _ _ p1 (by omega) (by omega), ih f' _ _ _ p2 (by omega) (by omega)]
            · rw [if_neg c4, if_neg c4, ih f' _ _ _ p2 (by omega) (by omega), ih f' _ _ _ p1 (by omega) (by omega)]
theorem take_1 (hn : n ≤ 8) {s : Int32} (hs : msk s n) (c : cnt s 8 < 2) (L : List Nat) (d : Int32) : takeG n B E l 8 s L d = (tbnL s n 0 L, d) := by
  rw [takeG_eq, takeR, if_pos ((msk_bc hs hn).1.mpr c)]
theorem take_n (hn : n ≤ 8) (ok : ∀ c, okBE n (B c) (E c)) {s : Int32} (hs : msk s n) (c : ¬ cnt s 8 < 2) (e : gGA n B E l s = -1 ∧ gGD n B E l s = -1) (L : List Nat) (d : Int32) : takeG n B E l 8 s L d = (tbnL s n 0 L, d + 1) := by
  have mA := (bestA (l := l) ok s).m1 (ok 1)
  have mD := (bestD (l := l) ok s).m1 (ok 0)
  rw [takeG_eq, takeR, if_neg (fun z => c ((msk_bc hs hn).1.mp z)), if_pos ⟨mA.mpr e.1, mD.mpr e.2⟩, if_pos (e.1.trans e.2.symm)]
/-- what is read first of a set that is cut -/
noncomputable def gF (n : Nat) (B E : Int32 → Nat → Int32) (l s : Int32) : Int32 := if gGD n B E l s ≤ gGA n B E l s then gEA n B E l s else if l = 0 then gED n B E l s else s &&& (gED n B E l s ^^^ -1)
theorem take_s (hn : n ≤ 8) (ok : ∀ c, okBE n (B c) (E c)) {s : Int32} (hs : msk s n) (c : ¬ cnt s 8 < 2) (e : ¬ (gGA n B E l s = -1 ∧ gGD n B E l s = -1)) (L : List Nat) (d : Int32) :
    (msk (gF n B E l s) n ∧ msk (s &&& (gF n B E l s ^^^ -1)) n ∧ cnt s 8 = cnt (gF n B E l s) 8 + cnt (s &&& (gF n B E l s ^^^ -1)) 8 ∧ 1 ≤ cnt (gF n B E l s) 8 ∧ 1 ≤ cnt (s &&& (gF n B E l s ^^^ -1)) 8) ∧
    ∀ d', d' = (if gGA n B E l s = gGD n B E l s then d + 1 else d) → takeG n B E l 8 s L d = takeG n B E l 8 (s &&& (gF n B E l s ^^^ -1)) (takeG n B E l 8 (gF n B E l s) L d').1 (takeG n B E l 8 (gF n B E l s) L d').2 := by
  have bA := bestA (l := l) ok s
  have bD := bestD (l := l) ok s
  have mA := bA.m1 (ok 1)
  have mD := bD.m1 (ok 0)
  have lA : -1 ≤ gGA n B E l s := by
    rcases bA with ⟨-, z2, -⟩ | ⟨z1, z2, -⟩
    · rw [z2]; decide
    · have := gap_pos (ok 1) z1; grind
  have lD : -1 ≤ gGD n B E l s := by
    rcases bD with ⟨-, z2, -⟩ | ⟨z1, z2, -⟩
    · rw [z2]; decide
    · have := gap_pos (ok 0) z1; grind
  have c8 := cnt_le s 8
  have cn : ¬ (gAC n B E l s = -1 ∧ gDW n B E l s = -1) := fun z => e ⟨mA.mp z.1, mD.mp z.2⟩
  have e8 : ∀ d', d' = (if gGA n B E l s = gGD n B E l s then d + 1 else d) → takeG n B E l 8 s L d = if gGD n B E l s ≤ gGA n B E l s then takeG n B E l 7 (s &&& (gEA n B E l s ^^^ -1)) (takeG n B E l 7 (gEA n B E l s) L d').1 (takeG n B E l 7 (gEA n B E l s) L d').2
      else if l = 0 then takeG n B E l 7 (s &&& (gED n B E l s ^^^ -1)) (takeG n B E l 7 (gED n B E l s) L d').1 (takeG n B E l 7 (gED n B E l s) L d').2
      else takeG n B E l 7 (gED n B E l s) (takeG n B E l 7 (s &&& (gED n B E l s ^^^ -1)) L d').1 (takeG n B E l 7 (s &&& (gED n B E l s ^^^ -1)) L d').2 := fun d' hd => by
    rw [hd, takeG_eq, takeR, if_neg (fun z => c ((msk_bc hs hn).1.mp z)), if_neg cn]
  by_cases c3 : gGD n B E l s ≤ gGA n B E l s
  · have cA : ¬ gGA n B E l s = -1 := fun z => e ⟨z, by grind⟩
    obtain ⟨p1, p2, p3, p4, p5, p6, -⟩ := cut_parts hn (ok 1) hs (bA.cut cA)
    have eF : gF n B E l s = endL (E 1) s (gAC n B E l s) n 0 0 := by unfold gF; rw [if_pos c3]; rfl
    rw [eF]
    refine ⟨⟨p1, p2, p3, p4, p5⟩, fun d' hd => ?_⟩
    rw [e8 d' hd, if_pos c3, show gEA n B E l s = endL (E 1) s (gAC n B E l s) n 0 0 from rfl, take_fuel hn ok 7 8 _ _ _ p1 (by omega) (by omega), take_fuel hn ok 7 8 _ _ _ p2 (by omega) (by omega)]
  · have cD : ¬ gGD n B E l s = -1 := fun z => c3 (by rw [z]; exact lA)
    obtain ⟨p1, p2, p3, p4, p5, p6, -⟩ := cut_parts hn (ok 0) hs (bD.cut cD)
    by_cases c4 : l = 0
    · have eF : gF n B E l s = endL (E 0) s (gDW n B E l s) n 0 0 := by unfold gF; rw [if_neg c3, if_pos c4]; rfl
      rw [eF]
      refine ⟨⟨p1, p2, p3, p4, p5⟩, fun d' hd => ?_⟩
      rw [e8 d' hd, if_neg c3, if_pos c4, show gED n B E l s = endL (E 0) s (gDW n B E l s) n 0 0 from rfl, take_fuel hn ok 7 8 _ _ _ p1 (by omega) (by omega), take_fuel hn ok 7 8 _ _ _ p2 (by omega) (by omega)]
    · have eF : gF n B E l s = s &&& (endL (E 0) s (gDW n B E l s) n 0 0 ^^^ -1) := by unfold gF; rw [if_neg c3, if_neg c4]; rfl
      rw [eF, p6]
      refine ⟨⟨p2, p1, by omega, p5, p4⟩, fun d' hd => ?_⟩
      rw [e8 d' hd, if_neg c3, if_neg c4, show gED n B E l s = endL (E 0) s (gDW n B E l s) n 0 0 from rfl, take_fuel hn ok 7 8 _ _ _ p2 (by omega) (by omega), take_fuel hn ok 7 8 _ _ _ p1 (by omega) (by omega)]
end TAKE
theorem tbn_len {s : Int32} (k : Nat) : ∀ (i : Nat) (L : List Nat), i + k ≤ 8 → L.length + cnt s (i + k) ≤ 8 + cnt s i → (tbnL s k i L).length + cnt s i = L.length + cnt s (i + k) := by
  induction k with
  | zero => intro i L _ _; rw [tbnL]; rfl
  | succ k ih =>
    intro i L h8 h
    have hm := cnt_mono s (a := i + 1) (b := i + (k + 1)) (by omega)
    have hc : cnt s (i + 1) = cnt s i + (if bt s i = true then 1 else 0) := rfl
    rw [tbnL]
    by_cases c : (s >>> (nI i &&& 31)) &&& 1 = 1
    · rw [if_pos ((inS_bt (by omega)).mp c)] at hc
      rw [if_pos ⟨c, by omega⟩]
      have e := ih (i + 1) (L ++ [i]) (by omega) (by rw [List.length_append, show i + 1 + k = i + (k + 1) by omega]; simp only [List.length_cons, List.length_nil]; omega)
      rw [show i + 1 + k = i + (k + 1) by omega, List.length_append] at e
      simp only [List.length_cons, List.length_nil] at e
      omega
    · rw [if_neg (fun z => c ((inS_bt (by omega)).mpr z))] at hc
      rw [if_neg (fun z => c z.1)]
      have e := ih (i + 1) L (by omega) (by rw [show i + 1 + k = i + (k + 1) by omega]; omega)
      rw [show i + 1 + k = i + (k + 1) by omega] at e
      omega
/-- behind the last panel of a set nothing is taken -/
theorem tbn_more {s : Int32} {n : Nat} (hs : msk s n) (k : Nat) : ∀ (i : Nat) (L : List Nat), n ≤ i → i + k ≤ 32 → tbnL s k i L = L := by
  induction k with
  | zero => intro i L _ _; rw [tbnL]
  | succ k ih =>
    intro i L h1 h2
    rw [tbnL, if_neg (fun z => by have := hs i (by omega) ((inS_bt (by omega)).mp z.1); omega), ih (i + 1) L (by omega) (by omega)]
theorem tbn_split {s : Int32} (a : Nat) : ∀ (b i : Nat) (L : List Nat), tbnL s (a + b) i L = tbnL s b (i + a) (tbnL s a i L) := by
  induction a with
  | zero => intro b i L; rw [tbnL, Nat.zero_add, Nat.add_zero]
  | succ a ih =>
    intro b i L
    rw [show a + 1 + b = (a + b) + 1 by omega, tbnL, tbnL]
    by_cases c : (s >>> (nI i &&& 31)) &&& 1 = 1 ∧ L.length < 8
    · rw [if_pos c, if_pos c, ih, show i + 1 + a = i + (a + 1) by omega]
    · rw [if_neg c, if_neg c, ih, show i + 1 + a = i + (a + 1) by omega]
theorem tbn_8 {s : Int32} {n : Nat} (hn : n ≤ 8) (hs : msk s n) (L : List Nat) : tbnL s 8 0 L = tbnL s n 0 L := by
  have := tbn_split (s := s) n (8 - n) 0 L
  rw [show n + (8 - n) = 8 by omega, Nat.zero_add, tbn_more hs (8 - n) n _ (Nat.le_refl _) (by omega)] at this
  exact this
