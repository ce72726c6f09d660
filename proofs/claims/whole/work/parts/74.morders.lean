theorem sumI_add (f g : Nat → Int32) : ∀ n, sumI (fun i => f i + g i) n = sumI f n + sumI g n
  | 0 => by simp [sumI]
  | n + 1 => by
    rw [sumI, sumI, sumI, sumI_add f g n]
    rw [Int32.add_assoc (sumI f n) (sumI g n), ← Int32.add_assoc (sumI g n) (f n) (g n), Int32.add_comm (sumI g n) (f n), Int32.add_assoc (f n) (sumI g n) (g n), ← Int32.add_assoc (sumI f n) (f n)]
theorem sumI_zero : ∀ n, sumI (fun _ => 0) n = 0
  | 0 => rfl
  | n + 1 => by rw [sumI, sumI_zero n]; rfl
theorem sumI_swap (f : Nat → Nat → Int32) (k : Nat) : ∀ n, sumI (fun i => sumI (fun j => f i j) k) n = sumI (fun j => sumI (fun i => f i j) n) k
  | 0 => by rw [sumI]; exact (sumI_zero k).symm
  | n + 1 => by
    rw [sumI, sumI_swap f k n, ← sumI_add]
    rfl
theorem sumI_eq {f g : Nat → Int32} : ∀ n, (∀ i, i < n → f i = g i) → sumI f n = sumI g n
  | 0, _ => rfl
  | n + 1, h => by rw [sumI, sumI, sumI_eq n (fun i hi => h i (by omega)), h n (by omega)]
/-- v where A holds, 0 elsewhere -/
noncomputable def wI (A : Prop) (v : Int32) : Int32 := @ite _ A (Classical.propDecidable A) v 0
theorem wI_t {A : Prop} {v : Int32} (h : A) : wI A v = v := if_pos h
theorem wI_f {A : Prop} {v : Int32} (h : ¬ A) : wI A v = 0 := if_neg h
theorem wI_c {A B : Prop} {v w : Int32} (h : A ↔ B) (e : A → v = w) : wI A v = wI B w := by
  by_cases a : A
  · rw [wI_t a, wI_t (h.mp a), e a]
  · rw [wI_f a, wI_f (fun b => a (h.mpr b))]
theorem wI_sum (A : Prop) (f : Nat → Int32) (n : Nat) : wI A (sumI f n) = sumI (fun i => wI A (f i)) n := by
  by_cases a : A
  · rw [wI_t a]; exact sumI_eq n (fun i _ => (wI_t a).symm)
  · rw [wI_f a, ← sumI_zero n]; exact sumI_eq n (fun i _ => (wI_f a).symm)
theorem wI_wI (A B : Prop) (v : Int32) : wI A (wI B v) = wI (A ∧ B) v := by
  by_cases a : A
  · rw [wI_t a]; exact wI_c ⟨fun b => ⟨a, b⟩, fun z => z.2⟩ (fun _ => rfl)
  · rw [wI_f a, wI_f (fun z => a z.1)]
def rmB (s : Nat → Bool) (i : Nat) : Nat → Bool := fun k => s k && !(decide (k = i))
theorem rmB_t {s : Nat → Bool} {i k : Nat} : rmB s i k = true ↔ s k = true ∧ ¬ k = i := by unfold rmB; simp
theorem rmB_comm (s : Nat → Bool) (i j : Nat) : rmB (rmB s i) j = rmB (rmB s j) i := by
  funext k
  unfold rmB
  simp only [Bool.and_assoc, Bool.and_comm, Bool.and_left_comm]
def cdB (s : Nat → Bool) : Nat → Nat
  | 0 => 0
  | n + 1 => cdB s n + (if s n = true then 1 else 0)
theorem cdB_rm {s : Nat → Bool} {i : Nat} : ∀ n, (i < n → s i = true → cdB (rmB s i) n + 1 = cdB s n) ∧ (n ≤ i → cdB (rmB s i) n = cdB s n)
  | 0 => ⟨fun h => by omega, fun _ => rfl⟩
  | n + 1 => by
    obtain ⟨h1, h2⟩ := cdB_rm (s := s) (i := i) n
    refine ⟨fun hi hs => ?_, fun hi => ?_⟩
    · rw [cdB, cdB]
      by_cases e : n = i
      · subst e
        rw [h2 (Nat.le_refl _), if_pos hs, if_neg (fun z => (rmB_t.mp z).2 rfl)]
      · have := h1 (by omega) hs
        by_cases d : s n = true
        · rw [if_pos d, if_pos (rmB_t.mpr ⟨d, e⟩)]; omega
        · rw [if_neg d, if_neg (fun z => d (rmB_t.mp z).1)]; omega
    · rw [cdB, cdB, h2 (by omega)]
      by_cases d : s n = true
      · rw [if_pos d, if_pos (rmB_t.mpr ⟨d, by omega⟩)]
      · rw [if_neg d, if_neg (fun z => d (rmB_t.mp z).1)]
theorem cdB_pos {s : Nat → Bool} {i : Nat} : ∀ n, i < n → s i = true → 1 ≤ cdB s n
  | 0, h, _ => by omega
  | n + 1, h, hs => by
    rw [cdB]
    by_cases e : n = i
    · subst e; rw [if_pos hs]; omega
    · have := cdB_pos n (by omega) hs; omega
theorem cdB_one {s : Nat → Bool} {n i k : Nat} (h : cdB s n = 1) (hi : i < n) (hk : k < n) (si : s i = true) (sk : s k = true) : k = i := by
  refine Classical.byContradiction fun e => ?_
  have h1 := (cdB_rm (s := s) (i := i) n).1 hi si
  have h2 := cdB_pos n hk (rmB_t.mpr ⟨sk, e⟩)
  omega
section ORD
variable (n : Nat) (A : Nat → Nat → Prop)
def frO (s : Nat → Bool) (i : Nat) : Prop := s i = true ∧ ∀ k, k < n → s k = true → ¬ A k i
def bkO (s : Nat → Bool) (i : Nat) : Prop := s i = true ∧ ∀ k, k < n → s k = true → ¬ A i k
/-- the orders of a set, counted from its front, and from its back -/
noncomputable def frS : Nat → (Nat → Bool) → Int32
  | 0, _ => 1
  | f + 1, s => sumI (fun i => wI (frO n A s i) (frS f (rmB s i))) n
noncomputable def bkS : Nat → (Nat → Bool) → Int32
  | 0, _ => 1
  | f + 1, s => sumI (fun i => wI (bkO n A s i) (bkS f (rmB s i))) n
theorem fr_bk2 (f : Nat) : (∀ s, cdB s n = f → frS n A f s = bkS n A f s) ∧ (∀ s, cdB s n = f + 1 → frS n A (f + 1) s = bkS n A (f + 1) s) := by
  induction f with
  | zero =>
    refine ⟨fun s _ => rfl, fun s h => ?_⟩
    rw [frS, bkS]
    refine sumI_eq n (fun i hi => wI_c ⟨fun z => ⟨z.1, fun k hk sk => ?_⟩, fun z => ⟨z.1, fun k hk sk => ?_⟩⟩ (fun _ => rfl))
    · have e := cdB_one (by omega) hi hk z.1 sk
      subst e
      exact z.2 k hk sk
    · have e := cdB_one (by omega) hi hk z.1 sk
      subst e
      exact z.2 k hk sk
  | succ f ih =>
    obtain ⟨ih0, ih1⟩ := ih
    refine ⟨ih1, fun s h => ?_⟩
    have h1 : frS n A (f + 1 + 1) s = sumI (fun i => sumI (fun j => wI (frO n A s i ∧ bkO n A (rmB s i) j) (bkS n A f (rmB (rmB s i) j))) n) n := by
      rw [frS]
      refine sumI_eq n (fun i hi => ?_)
      by_cases c : frO n A s i
      · have e := ih1 (rmB s i) (by have := (cdB_rm (s := s) (i := i) n).1 hi c.1; omega)
        rw [wI_t c, e, bkS]
        exact sumI_eq n (fun j _ => wI_c ⟨fun z => ⟨c, z⟩, fun z => z.2⟩ (fun _ => rfl))
      · rw [wI_f c, ← sumI_zero n]
        exact sumI_eq n (fun j _ => (wI_f (fun z => c z.1)).symm)
    have h2 : bkS n A (f + 1 + 1) s = sumI (fun j => sumI (fun i => wI (bkO n A s j ∧ frO n A (rmB s j) i) (frS n A f (rmB (rmB s j) i))) n) n := by
      rw [bkS]
      refine sumI_eq n (fun j hj => ?_)
      by_cases c : bkO n A s j
      · have e := ih1 (rmB s j) (by have := (cdB_rm (s := s) (i := j) n).1 hj c.1; omega)
        rw [wI_t c, ← e, frS]
        exact sumI_eq n (fun i _ => wI_c ⟨fun z => ⟨c, z⟩, fun z => z.2⟩ (fun _ => rfl))
      · rw [wI_f c, ← sumI_zero n]
        exact sumI_eq n (fun i _ => (wI_f (fun z => c z.1)).symm)
    rw [h1, h2, sumI_swap]
    refine sumI_eq n (fun j hj => sumI_eq n (fun i hi => wI_c ⟨?_, ?_⟩ ?_))
    · rintro ⟨⟨a1, a2⟩, b1, b2⟩
      obtain ⟨b3, b4⟩ := rmB_t.mp b1
      refine ⟨⟨b3, fun k hk sk => ?_⟩, rmB_t.mpr ⟨a1, fun e => b4 e.symm⟩, fun k hk sk => a2 k hk (rmB_t.mp sk).1⟩
      by_cases e : k = i
      · rw [e]; exact a2 j hj b3
      · exact b2 k hk (rmB_t.mpr ⟨sk, e⟩)
    · rintro ⟨⟨a1, a2⟩, b1, b2⟩
      obtain ⟨b3, b4⟩ := rmB_t.mp b1
      refine ⟨⟨b3, fun k hk sk => ?_⟩, rmB_t.mpr ⟨a1, fun e => b4 e.symm⟩, fun k hk sk => a2 k hk (rmB_t.mp sk).1⟩
      by_cases e : k = j
      · rw [e]; exact a2 i hi b3
      · exact b2 k hk (rmB_t.mpr ⟨sk, e⟩)
    · rintro ⟨⟨a1, a2⟩, b1, b2⟩
      obtain ⟨b3, b4⟩ := rmB_t.mp b1
      rw [rmB_comm s j i]
      refine (ih0 _ ?_).symm
      have q1 := (cdB_rm (s := s) (i := i) n).1 hi a1
      have q2 := (cdB_rm (s := rmB s i) (i := j) n).1 hj b1
      omega
theorem fr_bk {f : Nat} {s : Nat → Bool} (h : cdB s n = f) : frS n A f s = bkS n A f s := (fr_bk2 n A f).1 s h
theorem bkO_cg {s t : Nat → Bool} (h : ∀ k, k < n → s k = t k) {i : Nat} (hi : i < n) : bkO n A s i ↔ bkO n A t i := by
  unfold bkO
  rw [h i hi]
  exact ⟨fun z => ⟨z.1, fun k hk sk => z.2 k hk (by rw [h k hk]; exact sk)⟩, fun z => ⟨z.1, fun k hk sk => z.2 k hk (by rw [← h k hk]; exact sk)⟩⟩
theorem frO_cg {s t : Nat → Bool} (h : ∀ k, k < n → s k = t k) {i : Nat} (hi : i < n) : frO n A s i ↔ frO n A t i := by
  unfold frO
  rw [h i hi]
  exact ⟨fun z => ⟨z.1, fun k hk sk => z.2 k hk (by rw [h k hk]; exact sk)⟩, fun z => ⟨z.1, fun k hk sk => z.2 k hk (by rw [← h k hk]; exact sk)⟩⟩
theorem bkS_cg (f : Nat) : ∀ {s t : Nat → Bool}, (∀ k, k < n → s k = t k) → bkS n A f s = bkS n A f t := by
  induction f with
  | zero => exact fun _ => rfl
  | succ f ih =>
    intro s t h
    rw [bkS, bkS]
    exact sumI_eq n (fun i hi => wI_c (bkO_cg n A h hi) (fun _ => ih (fun k hk => by unfold rmB; rw [h k hk])))
theorem frS_cg (f : Nat) : ∀ {s t : Nat → Bool}, (∀ k, k < n → s k = t k) → frS n A f s = frS n A f t := by
  induction f with
  | zero => exact fun _ => rfl
  | succ f ih =>
    intro s t h
    rw [frS, frS]
    exact sumI_eq n (fun i hi => wI_c (frO_cg n A h hi) (fun _ => ih (fun k hk => by unfold rmB; rw [h k hk])))
theorem frS_A {A' : Nat → Nat → Prop} (h : ∀ i j, i < n → j < n → (A i j ↔ A' i j)) (f : Nat) : ∀ (s : Nat → Bool), frS n A f s = frS n A' f s := by
  induction f with
  | zero => exact fun _ => rfl
  | succ f ih =>
    intro s
    rw [frS, frS]
    exact sumI_eq n (fun i hi => wI_c ⟨fun z => ⟨z.1, fun k hk sk w => z.2 k hk sk ((h k i hk hi).mpr w)⟩, fun z => ⟨z.1, fun k hk sk w => z.2 k hk sk ((h k i hk hi).mp w)⟩⟩ (fun _ => ih _))
/-- the orders of a set of numbers, by the set as a number -/
noncomputable def wyS (s : Nat) : Int32 := bkS n A (cnt (nI s) 8) (bt (nI s))
end ORD
theorem cnt_cd (s : Int32) : ∀ n, cnt s n = cdB (bt s) n
  | 0 => rfl
  | n + 1 => by rw [cnt, cdB, cnt_cd s n]
theorem cnt_more {s : Int32} {n : Nat} (h : msk s n) : ∀ k, n + k ≤ 32 → cnt s (n + k) = cnt s n
  | 0, _ => rfl
  | k + 1, hk => by
    rw [show n + (k + 1) = (n + k) + 1 from rfl, cnt, cnt_more h k (by omega), if_neg (fun z => by have := h (n + k) (by omega) z; omega), Nat.add_zero]
theorem rm_bit : ∀ s, s < 256 → ∀ i, i < 8 → bt (nI s) i = true → nI s &&& ((1 : Int32) <<< (nI i &&& 31) ^^^ -1) = nI (s - 2 ^ i) ∧ 2 ^ i ≤ s ∧ cnt (nI (s - 2 ^ i)) 8 + 1 = cnt (nI s) 8 := by decide +kernel
theorem cnt_n0 : ∀ s, s < 256 → 1 ≤ s → 1 ≤ cnt (nI s) 8 := by decide +kernel
theorem shl_n : ∀ n, n < 9 → (1 : Int32) <<< (nI n &&& 31) = nI (2 ^ n) := by decide +kernel
theorem p2_le : ∀ n, n < 9 → 1 ≤ 2 ^ n ∧ 2 ^ n ≤ 256 := by decide
theorem bt_rm {s i : Nat} (hs : s < 256) (hi : i < 8) (hb : bt (nI s) i = true) {k : Nat} (hk : k < 8) : bt (nI (s - 2 ^ i)) k = rmB (bt (nI s)) i k := by
  rw [← (rm_bit s hs i hi hb).1, b_andn _ _ (by omega), b_bit (by omega) (by omega)]
  rfl
theorem wyS_step (n : Nat) (A : Nat → Nat → Prop) (hn : n ≤ 8) {s : Nat} (h1 : 1 ≤ s) (h2 : s < 256) : wyS n A s = sumI (fun i => wI (bkO n A (bt (nI s)) i) (wyS n A (s - 2 ^ i))) n := by
  obtain ⟨c, hc⟩ : ∃ c, cnt (nI s) 8 = c + 1 := ⟨cnt (nI s) 8 - 1, by have := cnt_n0 s h2 h1; omega⟩
  unfold wyS
  rw [hc, bkS]
  refine sumI_eq n (fun i hi => wI_c Iff.rfl (fun z => ?_))
  have e := (rm_bit s h2 i (by omega) z.1).2.2
  rw [show cnt (nI (s - 2 ^ i)) 8 = c by omega]
  exact bkS_cg n A c (fun k hk => (bt_rm h2 (by omega) z.1 (by omega)).symm)
theorem and1_0 (x : Int32) : x &&& 1 = 0 ↔ ¬ x &&& 1 = 1 := by
  rw [and1_bt]
  constructor
  · intro z y
    have e : bt (x &&& 1) 0 = true := by rw [b_and, y]; rfl
    rw [z] at e
    cases e
  · intro y
    refine b_ext fun i hi => ?_
    rw [b_and, b1 i hi, b_0]
    by_cases e : i = 0
    · subst e; simp at y; rw [y]; rfl
    · simp [e]
theorem ME.scr {h h' : hp_T} {m : Nat} {σ : sg_T} {t : Int32} (e : ME h m σ t h') (j : Nat) (v : Int32) : ME h m σ t (hsI h' 140 (dR h' 744 m) j v) := by
  obtain ⟨e1, ⟨e2, e3⟩, e4⟩ := e
  refine ⟨e1.arr e2 40 (by decide) (by decide) j v, ⟨e2, (sM_x _ _ (Or.inl ⟨by decide, by decide⟩) _ _ _).trans e3⟩, ?_⟩
  rw [hI_sI, if_neg (by omega)]; exact e4
