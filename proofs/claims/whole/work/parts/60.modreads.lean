/-- the reading of a page of the model -/
noncomputable def rdS (σ : sg_T) (p : Nat) (l : Int32) : List Nat × Int32 := readG (pN σ p) (sB σ p) (sE σ p) l
/-- the model's reading so far -/
def RS (h : hp_T) (m : Nat) (h1 : hp_T) (L : List Nat) (d : Int32) : Prop := CFr h h1 ∧ mOK h1 m ∧ sM h1 m = sM h m ∧ hI h1 745 m 0 = hI h 745 m 0 ∧ hI h1 738 m 0 = nI L.length ∧ hI h1 740 m 0 = d ∧ ∀ i, i < L.length → hI h1 135 (dR h1 739 m) i = ordI L i
theorem RS.put {h : hp_T} {m : Nat} {h1 : hp_T} {L : List Nat} {d : Int32} (r : RS h m h1 L d) {f a : Nat} (hf : (f = 137 ∧ a = dR h1 741 m) ∨ (f = 742 ∧ a = m) ∨ (f = 743 ∧ a = m)) (j : Nat) (v : Int32) : RS h m (hsI h1 f a j v) L d := by
  obtain ⟨r1, r2, r3, r4, r5, r6, r7⟩ := r
  have hk : mK0 (hK h1 a) = true := by
    rcases hf with ⟨-, rfl⟩ | ⟨-, rfl⟩ | ⟨-, rfl⟩
    · rw [(mo_37 r2).2.1]; rfl
    · rw [r2.1]; rfl
    · rw [r2.1]; rfl
  have hq : f = 137 ∨ f = 742 ∨ f = 743 := by rcases hf with z | z | z <;> simp [z.1]
  refine ⟨r1.sI hk, r2, (sM_x h1 m (by omega) a j v).trans r3, ?_, ?_, ?_, fun i hi => ?_⟩
  · rw [hI_sI, if_neg (by omega)]; exact r4
  · rw [hI_sI, if_neg (by omega)]; exact r5
  · rw [hI_sI, if_neg (by omega)]; exact r6
  · rw [hI_sI, if_neg (by omega), dR_sI]; exact r7 i hi
theorem RS.doubt {h : hp_T} {m : Nat} {h1 : hp_T} {L : List Nat} {d : Int32} (r : RS h m h1 L d) (x : Int32) : RS h m (hsI h1 740 m 0 x) L x := by
  obtain ⟨r1, r2, r3, r4, r5, r6, r7⟩ := r
  refine ⟨r1.sI (by rw [r2.1]; rfl), r2, (sM_x h1 m (by omega) m 0 x).trans r3, ?_, ?_, ?_, fun i hi => ?_⟩
  · rw [hI_sI, if_neg (by omega)]; exact r4
  · rw [hI_sI, if_neg (by omega)]; exact r5
  · rw [hI_sI, if_pos ⟨rfl, rfl, rfl⟩]
  · rw [hI_sI, if_neg (by omega), dR_sI]; exact r7 i hi
theorem RS.take {h : hp_T} {m : Nat} {h1 : hp_T} {L : List Nat} {d : Int32} (r : RS h m h1 L d) (i : Nat) : RS h m (hsI (hsI h1 135 (dR h1 739 m) L.length (nI i)) 738 m 0 (nI (L.length + 1))) (L ++ [i]) d := by
  obtain ⟨r1, r2, r3, r4, r5, r6, r7⟩ := r
  refine ⟨(r1.sI (by rw [(mo_35 r2).2.1]; rfl)).sI (by rw [hK_sI, r2.1]; rfl), r2, ((sM_x _ m (by omega) m 0 _).trans (sM_x h1 m (by omega) _ _ _)).trans r3, ?_, ?_, ?_, fun j hj => ?_⟩
  · rw [hI_sI, if_neg (by omega), hI_sI, if_neg (by omega)]; exact r4
  · rw [hI_sI, if_pos ⟨rfl, rfl, rfl⟩, List.length_append]; rfl
  · rw [hI_sI, if_neg (by omega), hI_sI, if_neg (by omega)]; exact r6
  · rw [hI_sI, if_neg (by omega), hI_sI, dR_sI, dR_sI]
    rw [List.length_append] at hj
    simp only [List.length_cons, List.length_nil] at hj
    by_cases c : j = L.length
    · rw [if_pos ⟨rfl, rfl, c⟩]
      unfold ordI
      rw [c, List.getElem?_append_right (Nat.le_refl _), Nat.sub_self]
      rfl
    · rw [if_neg (fun z => c z.2.2), r7 j (by omega)]
      unfold ordI
      rw [List.getElem?_append_left (by omega)]
def stk (h : hp_T) (m j : Nat) : Int32 := hI h 137 (dR h 741 m) j
def sumC (k : Nat → Int32) : Nat → Nat
  | 0 => 0
  | D + 1 => sumC k D + cnt (k D) 8
def runS (T : Int32 → List Nat → Int32 → List Nat × Int32) (k : Nat → Int32) : Nat → List Nat → Int32 → List Nat × Int32
  | 0, L, d => (L, d)
  | D + 1, L, d => runS T k D (T (k D) L d).1 (T (k D) L d).2
theorem sumC_cg {k k' : Nat → Int32} : ∀ D, (∀ j, j < D → k j = k' j) → sumC k D = sumC k' D
  | 0, _ => rfl
  | D + 1, h => by rw [sumC, sumC, sumC_cg D (fun j hj => h j (by omega)), h D (by omega)]
theorem runS_cg {T : Int32 → List Nat → Int32 → List Nat × Int32} {k k' : Nat → Int32} : ∀ D L d, (∀ j, j < D → k j = k' j) → runS T k D L d = runS T k' D L d
  | 0, _, _, _ => rfl
  | D + 1, L, d, h => by rw [runS, runS, h D (by omega), runS_cg D _ _ (fun j hj => h j (by omega))]
theorem sumC_ge {k : Nat → Int32} : ∀ D, (∀ j, j < D → 1 ≤ cnt (k j) 8) → D ≤ sumC k D
  | 0, _ => Nat.le_refl _
  | D + 1, h => by
    have := sumC_ge D (fun j hj => h j (by omega))
    have := h D (by omega)
    rw [sumC]; omega
theorem Go.ex {z : zT} {c s pc : Nat} {K : Nat → KT} (h : ∀ M, Go z c s pc (K M)) : Go z c s pc (fun ls st h => ∃ M, K M ls st h) := by
  obtain ⟨p, l, e, R, s, m, args, below, meth, c, Q, g⟩ := z
  exact fun ls st h0 H locs la ⟨M, hk⟩ => h M ls st h0 H locs la hk
abbrev TT_T : Type := Int32 → List Nat → Int32 → List Nat × Int32
/-- the stack's sets -/
def SOK (N m : Nat) (h1 : hp_T) (D : Nat) : Prop := ∀ j, j < D → msk (stk h1 m j) N ∧ 1 ≤ cnt (stk h1 m j) 8
def JS (h : hp_T) (m N : Nat) (T : TT_T) (FIN : List Nat × Int32) (h3 : hp_T) (D : Nat) (L : List Nat) (d : Int32) : Prop := RS h m h3 L d ∧ SOK N m h3 D ∧ L.length + sumC (stk h3 m) D ≤ 8 ∧ runS T (stk h3 m) D L d = FIN
def HK (h : hp_T) (m p : Nat) (l : Int32) (N : Nat) (T : TT_T) (FIN : List Nat × Int32) (k : KT) (M : Nat) : Prop := ∀ (h3 : hp_T) (D : Nat) (L : List Nat) (d : Int32) (o4 o5 o6 o7 o8 o9 o10 o11 : Option Value), JS h m N T FIN h3 D L d → 2 * sumC (stk h3 m) D < M + D → k [some (.ref m), some (.int (nI p)), some (.int l), some (.int (nI D)), o4, o5, o6, o7, o8, o9, o10, o11] [] h3
def I234 (h : hp_T) (m p : Nat) (l : Int32) (N : Nat) (T : TT_T) (FIN : List Nat × Int32) (k : KT) (M n : Nat) : KT := fun ls st h2 => ∃ i L d D s o5 o6 o7 o8 o9 o11, i + n = 8 ∧ ls = [some (.ref m), some (.int (nI p)), some (.int l), some (.int (nI D)), some (.int s), o5, o6, o7, o8, o9, some (.int (nI i)), o11] ∧ st = [] ∧ HK h m p l N T FIN k M ∧ 2 * sumC (stk h2 m) D < M + D ∧ RS h m h2 L d ∧ SOK N m h2 D ∧ L.length + cnt s 8 + sumC (stk h2 m) D ≤ 8 + cnt s i ∧ runS T (stk h2 m) D (tbnL s n i L) d = FIN
def bst (N : Nat) (B E : Nat → Int32) (s : Int32) (gr : Prop) (e : Nat) (w a : Int32) : Prop := ∃ y, Best (fun x => cutQ N B E s x ∧ x < nI e) (gapQ N B s) gr y w ∧ (¬ w = -1 → a = endL E s y N 0 0)
def I71 (h : hp_T) (m p : Nat) (l : Int32) (N : Nat) (T : TT_T) (FIN : List Nat × Int32) (B E : Int32 → Nat → Int32) (k : KT) (M n : Nat) : KT := fun ls st h2 => ∃ e L d D s wa aa wd ad o10 o11, e + n = 81 ∧ ls = [some (.ref m), some (.int (nI p)), some (.int l), some (.int (nI D)), some (.int s), some (.int wa), some (.int aa), some (.int wd), some (.int ad), some (.int (nI e)), o10, o11] ∧ st = [] ∧ HK h m p l N T FIN k M ∧ (M + D + 1 = 2 * sumC (stk h2 m) D + 2 * cnt s 8 ∧ 1 ≤ cnt s 8 ∧ msk s N) ∧ RS h m h2 L d ∧ SOK N m h2 D ∧ L.length + cnt s 8 + sumC (stk h2 m) D ≤ 8 ∧ runS T (stk h2 m) D (T s L d).1 (T s L d).2 = FIN ∧
  (cnt s 8 < 2 → wa = -1 ∧ wd = -1) ∧ (¬ cnt s 8 < 2 → bst N (B 1) (E 1) s False e wa aa ∧ bst N (B 0) (E 0) s (¬ l = 0) e wd ad)
def I41 (h : hp_T) (m p : Nat) (l : Int32) (N : Nat) (T : TT_T) (FIN : List Nat × Int32) (n : Nat) : KT := fun ls st h2 => ∃ D L d o4 o5 o6 o7 o8 o9 o10 o11, ls = [some (.ref m), some (.int (nI p)), some (.int l), some (.int (nI D)), o4, o5, o6, o7, o8, o9, o10, o11] ∧ st = [] ∧ JS h m N T FIN h2 D L d ∧ n + D = 2 * sumC (stk h2 m) D
theorem all_N : ∀ N, N < 9 → ((1 : Int32) <<< (nI N &&& 31)) - 1 = nI (2 ^ N - 1) ∧ cnt (nI (2 ^ N - 1)) 8 = N := by decide +kernel
theorem all_bt : ∀ N, N < 9 → ∀ i, i < 32 → bt (nI (2 ^ N - 1)) i = true → i < N := by decide +kernel
theorem bst_step {N : Nat} {B E : Nat → Int32} {s : Int32} {gr : Prop} {e : Nat} {w a : Int32} (he : e ≤ 80) (h : bst N B E s gr e w a) (ok : okBE N B E) :
    (¬ cutQ N B E s (nI e) → bst N B E s gr (e + 1) w a) ∧
    (cutQ N B E s (nI e) → (w < gapQ N B s (nI e) ∨ (gr ∧ gapQ N B s (nI e) = w)) → bst N B E s gr (e + 1) (gapQ N B s (nI e)) (orL (fun j => inS s j ∧ E j ≤ nI e) N 0 0)) ∧
    (cutQ N B E s (nI e) → ¬ (w < gapQ N B s (nI e) ∨ (gr ∧ gapQ N B s (nI e) = w)) → bst N B E s gr (e + 1) w a) := by
  obtain ⟨y, z, ha⟩ := h
  have lt1 : ∀ x : Int32, 0 ≤ x → (x < nI (e + 1) ↔ x < nI e ∨ x = nI e) := fun x hx => by
    obtain ⟨j, hj, rfl⟩ := nI_of (Int32.not_lt.mpr hx)
    rw [nI_ltI hj (by omega), nI_ltI hj (by omega), nI_eq hj (by omega)]
    omega
  have c0 : ∀ x, cutQ N B E s x → 0 ≤ x := fun x c => by
    obtain ⟨j, hj, -, hx⟩ := c.1
    have := ok j hj
    rw [← hx]; grind
  refine ⟨fun c => ⟨y, z.cg fun x => ?_, ha⟩, fun c u => ?_, fun c u => ?_⟩
  · constructor
    · exact fun q => ⟨q.1, (lt1 x (c0 x q.1)).mpr (Or.inl q.2)⟩
    · rintro ⟨q1, q2⟩
      rcases (lt1 x (c0 x q1)).mp q2 with q | rfl
      · exact ⟨q1, q⟩
      · exact absurd q1 c
  · have hC : ∀ x, (cutQ N B E s x ∧ x < nI (e + 1)) ↔ (cutQ N B E s x ∧ x < nI e) ∨ x = nI e := fun x => by
      constructor
      · rintro ⟨q1, q2⟩
        rcases (lt1 x (c0 x q1)).mp q2 with q | q
        · exact Or.inl ⟨q1, q⟩
        · exact Or.inr q
      · rintro (⟨q1, q2⟩ | rfl)
        · exact ⟨q1, (lt1 x (c0 x q1)).mpr (Or.inl q2)⟩
        · exact ⟨c, (lt1 _ (c0 _ c)).mpr (Or.inr rfl)⟩
    refine ⟨nI e, z.upd hC ?_, fun _ => (endL_or _ _ _ _ _ _).symm⟩
    rcases u with u | ⟨u1, u2⟩
    · exact Or.inl u
    · refine Or.inr ⟨u2, fun _ => ?_, fun q => absurd u1 q⟩
      rcases z with ⟨z1, z2, -⟩ | ⟨z1, -, -⟩
      · rw [z1]
        have : 0 ≤ nI e := nI_pos' (by omega)
        grind
      · exact z1.2
  · have hC : ∀ x, (cutQ N B E s x ∧ x < nI (e + 1)) ↔ (cutQ N B E s x ∧ x < nI e) ∨ x = nI e := fun x => by
      constructor
      · rintro ⟨q1, q2⟩
        rcases (lt1 x (c0 x q1)).mp q2 with q | q
        · exact Or.inl ⟨q1, q⟩
        · exact Or.inr q
      · rintro (⟨q1, q2⟩ | rfl)
        · exact ⟨q1, (lt1 x (c0 x q1)).mpr (Or.inl q2)⟩
        · exact ⟨c, (lt1 _ (c0 _ c)).mpr (Or.inr rfl)⟩
    refine ⟨y, z.keep hC (gap_pos ok c) (fun q => u ?_), ha⟩
    rcases q with q | ⟨q1, q2, q3⟩
    · exact Or.inl q
    · by_cases g : gr
      · exact Or.inr ⟨g, q1⟩
      · exfalso
        have q4 := q3 g
        rcases z with ⟨z1, z2, -⟩ | ⟨z1, -, -⟩
        · have := gap_pos ok c
          rw [q1, z2] at this
          exact absurd this (by decide)
        · have := z1.2
          grind
theorem bst_end {N : Nat} {B E : Nat → Int32} {s : Int32} {gr : Prop} {w a b g : Int32} (h : bst N B E s gr 81 w a) (ok : okBE N B E) (q : Best (cutQ N B E s) (gapQ N B s) gr b g) : w = g ∧ (¬ w = -1 → a = endL E s b N 0 0) := by
  obtain ⟨y, z, ha⟩ := h
  have z2 : Best (cutQ N B E s) (gapQ N B s) gr y w := z.cg fun x => ⟨fun c => c.1, fun c => ⟨c, by
    obtain ⟨j, hj, -, hx⟩ := c.1
    have := (ok j hj).2.2
    rw [← hx]
    have h80 : (80 : Int32) < nI 81 := by decide
    grind⟩⟩
  obtain ⟨e1, e2⟩ := z2.uniq q
  rw [← e1]
  exact ⟨e2, ha⟩
