/-- what taking by number gives: the places of the set, each once -/
theorem tbn_prm {s : Int32} (k : Nat) : ∀ (i : Nat) (L : List Nat), i + k ≤ 8 → L.length + cnt s (i + k) ≤ 8 + cnt s i → ∃ K, tbnL s k i L = L ++ K ∧ K.Nodup ∧ ∀ j, j ∈ K ↔ i ≤ j ∧ j < i + k ∧ bt s j = true := by
  induction k with
  | zero => exact fun i L _ _ => ⟨[], by rw [tbnL, List.append_nil], List.nodup_nil, fun j => ⟨fun z => (List.not_mem_nil z).elim, fun z => by omega⟩⟩
  | succ k ih =>
    intro i L h8 h
    have hm := cnt_mono s (a := i + 1) (b := i + (k + 1)) (by omega)
    have hc : cnt s (i + 1) = cnt s i + (if bt s i = true then 1 else 0) := rfl
    rw [tbnL]
    by_cases c : (s >>> (nI i &&& 31)) &&& 1 = 1
    · have cb := (inS_bt (i := i) (by omega)).mp c
      rw [if_pos cb] at hc
      rw [if_pos ⟨c, by omega⟩]
      obtain ⟨K, e1, e2, e3⟩ := ih (i + 1) (L ++ [i]) (by omega) (by rw [List.length_append, show i + 1 + k = i + (k + 1) by omega]; simp only [List.length_cons, List.length_nil]; omega)
      refine ⟨i :: K, by rw [e1, List.append_assoc]; rfl, List.nodup_cons.mpr ⟨fun z => by have := (e3 i).mp z; omega, e2⟩, fun j => ?_⟩
      rw [List.mem_cons, e3]
      constructor
      · rintro (rfl | ⟨a, b, d⟩)
        · exact ⟨by omega, by omega, cb⟩
        · exact ⟨by omega, by omega, d⟩
      · rintro ⟨a, b, d⟩
        by_cases e : j = i
        · exact Or.inl e
        · exact Or.inr ⟨by omega, by omega, d⟩
    · have cb : ¬ bt s i = true := fun z => c ((inS_bt (by omega)).mpr z)
      rw [if_neg cb] at hc
      rw [if_neg (fun z => c z.1)]
      obtain ⟨K, e1, e2, e3⟩ := ih (i + 1) L (by omega) (by rw [show i + 1 + k = i + (k + 1) by omega]; omega)
      refine ⟨K, e1, e2, fun j => ?_⟩
      rw [e3]
      constructor
      · rintro ⟨a, b, d⟩
        exact ⟨by omega, by omega, d⟩
      · rintro ⟨a, b, d⟩
        have e : ¬ j = i := fun e => cb (e ▸ d)
        exact ⟨by omega, by omega, d⟩
def Prm (s : Int32) (L M : List Nat) : Prop := ∃ K, M = L ++ K ∧ K.Nodup ∧ K.length = cnt s 8 ∧ ∀ j, j ∈ K ↔ j < 8 ∧ bt s j = true
theorem tbn_Prm {s : Int32} {n : Nat} (hn : n ≤ 8) (hs : msk s n) (L : List Nat) (h : L.length + cnt s 8 ≤ 8) : Prm s L (tbnL s n 0 L) := by
  rw [← tbn_8 hn hs]
  obtain ⟨K, e1, e2, e3⟩ := tbn_prm (s := s) 8 0 L (by omega) (by simpa [cnt] using h)
  have e4 := tbn_len (s := s) 8 0 L (by omega) (by simpa [cnt] using h)
  rw [e1, List.length_append, show cnt s 0 = 0 from rfl] at e4
  refine ⟨K, e1, e2, ?_, fun j => ?_⟩
  · rw [show 0 + 8 = 8 from rfl] at e4; omega
  · rw [e3]
    exact ⟨fun z => ⟨by omega, z.2.2⟩, fun z => ⟨by omega, by omega, z.2⟩⟩
theorem Prm.two {s a b : Int32} {L M N : List Nat} (x : Prm a L M) (y : Prm b M N) (hs : ∀ i, i < 8 → (bt s i = true ↔ bt a i = true ∨ bt b i = true) ∧ ¬ (bt a i = true ∧ bt b i = true)) : Prm s L N := by
  obtain ⟨K, e1, e2, e3, e4⟩ := x
  obtain ⟨K', f1, f2, f3, f4⟩ := y
  refine ⟨K ++ K', by rw [f1, e1, List.append_assoc], List.nodup_append.mpr ⟨e2, f2, fun i hi j hj e => ?_⟩, ?_, fun j => ?_⟩
  · subst e
    have u := (e4 i).mp hi
    have v := (f4 i).mp hj
    exact (hs i u.1).2 ⟨u.2, v.2⟩
  · rw [List.length_append, e3, f3]
    exact (cnt_split 8 (fun i hi => hs i hi)).symm
  · rw [List.mem_append, e4, f4]
    constructor
    · rintro (⟨z, y⟩ | ⟨z, y⟩)
      · exact ⟨z, (hs j z).1.mpr (Or.inl y)⟩
      · exact ⟨z, (hs j z).1.mpr (Or.inr y)⟩
    · rintro ⟨z, y⟩
      rcases (hs j z).1.mp y with w | w
      · exact Or.inl ⟨z, w⟩
      · exact Or.inr ⟨z, w⟩
theorem Prm.len {s : Int32} {L M : List Nat} (x : Prm s L M) : M.length = L.length + cnt s 8 := by
  obtain ⟨K, e1, e2, e3, e4⟩ := x
  rw [e1, List.length_append, e3]
theorem cut_two {n : Nat} {B E : Nat → Int32} {s b : Int32} (hn : n ≤ 8) : ∀ i, i < 8 → (bt s i = true ↔ bt (endL E s b n 0 0) i = true ∨ bt (s &&& (endL E s b n 0 0 ^^^ -1)) i = true) ∧ ¬ (bt (endL E s b n 0 0) i = true ∧ bt (s &&& (endL E s b n 0 0 ^^^ -1)) i = true) := by
  rw [endL_or]
  generalize hx : orL (fun j => inS s j ∧ E j ≤ b) n 0 0 = x
  have bx : ∀ i, i < 32 → (bt x i = true ↔ i < n ∧ inS s i ∧ E i ≤ b) := fun i hi => by rw [← hx]; exact orL_0 hi (by omega)
  intro i hi
  have br : bt (s &&& (x ^^^ -1)) i = true ↔ bt s i = true ∧ ¬ bt x i = true := by
    rw [b_andn s x (by omega), Bool.and_eq_true, Bool.not_eq_true', Bool.not_eq_true]
  have xs : bt x i = true → bt s i = true := fun z => (inS_bt (by omega)).mp ((bx i (by omega)).mp z).2.1
  rw [br]
  refine ⟨⟨fun z => ?_, fun z => ?_⟩, fun z => z.2.2 z.1⟩
  · by_cases y : bt x i = true
    · exact Or.inl y
    · exact Or.inr ⟨z, y⟩
  · rcases z with z | z
    · exact xs z
    · exact z.1
section PRM
variable {n : Nat} {B E : Int32 → Nat → Int32} {l : Int32}
theorem take_prm (hn : n ≤ 8) (ok : ∀ c, okBE n (B c) (E c)) (f : Nat) : ∀ (s : Int32) (L : List Nat) (d : Int32), msk s n → cnt s 8 ≤ f → L.length + cnt s 8 ≤ 8 → Prm s L (takeG n B E l f s L d).1 := by
  rw [takeG_eq]
  induction f with
  | zero => exact fun s L d hs h1 h2 => tbn_Prm hn hs L h2
  | succ f ih =>
    intro s L d hs h1 h2
    rw [takeR]
    by_cases c1 : bcI s < 2
    · rw [if_pos c1]; exact tbn_Prm hn hs L h2
    · rw [if_neg c1]
      by_cases c2 : gAC n B E l s = -1 ∧ gDW n B E l s = -1
      · rw [if_pos c2]; exact tbn_Prm hn hs L h2
      · rw [if_neg c2]
        have bA := bestA (l := l) ok s
        have bD := bestD (l := l) ok s
        have mA := bA.m1 (ok 1)
        have mD := bD.m1 (ok 0)
        by_cases c3 : gGD n B E l s ≤ gGA n B E l s
        · rw [if_pos c3]
          have cA : ¬ gGA n B E l s = -1 := by
            intro z
            have : gGD n B E l s = -1 := by
              rcases bD with ⟨-, z2, -⟩ | ⟨z1, z2, -⟩
              · exact z2
              · have := gap_pos (ok 0) z1; grind
            exact c2 ⟨mA.mpr z, mD.mpr this⟩
          obtain ⟨p1, p2, p3, p4, p5, -⟩ := cut_parts hn (ok 1) hs (bA.cut cA)
          rw [show gEA n B E l s = endL (E 1) s (gAC n B E l s) n 0 0 from rfl]
          have x := ih _ L (if gGA n B E l s = gGD n B E l s then d + 1 else d) p1 (by omega) (by omega)
          have y := x.len
          exact x.two (ih _ _ _ p2 (by omega) (by omega)) (cut_two (B := B 1) hn)
        · rw [if_neg c3]
          have cD : ¬ gGD n B E l s = -1 := by
            intro z
            have : -1 ≤ gGA n B E l s := by
              rcases bA with ⟨-, z2, -⟩ | ⟨z1, z2, -⟩
              · rw [z2]; decide
              · have := gap_pos (ok 1) z1; grind
            rw [z] at c3
            exact c3 this
          obtain ⟨p1, p2, p3, p4, p5, -⟩ := cut_parts hn (ok 0) hs (bD.cut cD)
          rw [show gED n B E l s = endL (E 0) s (gDW n B E l s) n 0 0 from rfl]
          by_cases c4 : l = 0
          · rw [if_pos c4]
            have x := ih _ L (if gGA n B E l s = gGD n B E l s then d + 1 else d) p1 (by omega) (by omega)
            have y := x.len
            exact x.two (ih _ _ _ p2 (by omega) (by omega)) (cut_two (B := B 0) hn)
          · rw [if_neg c4]
            have x := ih _ L (if gGA n B E l s = gGD n B E l s then d + 1 else d) p2 (by omega) (by omega)
            have y := x.len
            exact x.two (ih _ _ _ p1 (by omega) (by omega)) (fun i hi => ⟨(cut_two (B := B 0) hn i hi).1.trans Or.comm, fun z => (cut_two (B := B 0) hn i hi).2 z.symm⟩)
theorem all_in : ∀ N, N < 9 → ∀ i, i < 8 → (bt (nI (2 ^ N - 1)) i = true ↔ i < N) := by decide +kernel
theorem readG_prm (hn : n ≤ 8) (ok : ∀ c, okBE n (B c) (E c)) : (readG n B E l).1.Nodup ∧ (readG n B E l).1.length = n ∧ ∀ j, j ∈ (readG n B E l).1 ↔ j < n := by
  have c8 : cnt (nI (2 ^ n - 1)) 8 = n := (all_N n (by omega)).2
  obtain ⟨K, e1, e2, e3, e4⟩ := take_prm (B := B) (E := E) (l := l) hn ok 8 (nI (2 ^ n - 1)) [] 0 (fun i hi => all_bt n (by omega) i hi) (by omega) (by rw [c8]; exact (by simpa using hn))
  unfold readG
  rw [e1, List.nil_append]
  refine ⟨e2, e3.trans c8, fun j => ?_⟩
  rw [e4]
  exact ⟨fun z => (all_in n (by omega) j z.1).mp z.2, fun z => ⟨by omega, (all_in n (by omega) j (by omega)).mpr z⟩⟩
end PRM
theorem rdS_prm {σ : sg_T} (hW : WF σ) {p : Nat} (hp : p < 8) (l : Int32) : (rdS σ p l).1.Nodup ∧ (rdS σ p l).1.length = pN σ p ∧ ∀ j, j ∈ (rdS σ p l).1 ↔ j < pN σ p := readG_prm (hW.2.1 p hp).1.2 (fun c => okBE_of hW hp c)
theorem ordI_at {L : List Nat} {i : Nat} (h : i < L.length) : ordI L i = nI L[i] := by unfold ordI; rw [List.getElem?_eq_getElem h]
