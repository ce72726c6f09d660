/-! A heap by numbered fields: the kind of each address, the length of each array, whole numbers and references by field (or by the array's kind), address, place -/
abbrev hp_T : Type := (Nat → Nat) × (Nat → Nat) × (Nat → Nat → Nat → Int32) × (Nat → Nat → Nat → Option Nat) × (Nat → Nat)
def hK (h : hp_T) (a : Nat) : Nat := h.1 a
def hN (h : hp_T) (a : Nat) : Nat := h.2.1 a
def hI (h : hp_T) (f a j : Nat) : Int32 := h.2.2.1 f a j
def hR (h : hp_T) (f a j : Nat) : Option Nat := h.2.2.2.1 f a j
def hC (h : hp_T) (i : Nat) : Nat := h.2.2.2.2 i
def hsI (h : hp_T) (f a j : Nat) (v : Int32) : hp_T := (h.1, h.2.1, fun g b i => if g = f ∧ b = a ∧ i = j then v else h.2.2.1 g b i, h.2.2.2.1, h.2.2.2.2)
def hsR (h : hp_T) (f a j : Nat) (v : Option Nat) : hp_T := (h.1, h.2.1, h.2.2.1, fun g b i => if g = f ∧ b = a ∧ i = j then v else h.2.2.2.1 g b i, h.2.2.2.2)
def hnew (h : hp_T) (a kd n : Nat) : hp_T := (fun b => if b = a then kd else h.1 b, fun b => if b = a then n else h.2.1 b, fun g b i => if b = a then 0 else h.2.2.1 g b i, fun g b i => if b = a then none else h.2.2.2.1 g b i, h.2.2.2.2)
theorem hK_sI (h : hp_T) (f a j : Nat) (v : Int32) (b : Nat) : hK (hsI h f a j v) b = hK h b := rfl
theorem hN_sI (h : hp_T) (f a j : Nat) (v : Int32) (b : Nat) : hN (hsI h f a j v) b = hN h b := rfl
theorem hR_sI (h : hp_T) (f a j : Nat) (v : Int32) (g b i : Nat) : hR (hsI h f a j v) g b i = hR h g b i := rfl
theorem hI_sI (h : hp_T) (f a j : Nat) (v : Int32) (g b i : Nat) : hI (hsI h f a j v) g b i = if g = f ∧ b = a ∧ i = j then v else hI h g b i := rfl
theorem hK_sR (h : hp_T) (f a j : Nat) (v : Option Nat) (b : Nat) : hK (hsR h f a j v) b = hK h b := rfl
theorem hN_sR (h : hp_T) (f a j : Nat) (v : Option Nat) (b : Nat) : hN (hsR h f a j v) b = hN h b := rfl
theorem hI_sR (h : hp_T) (f a j : Nat) (v : Option Nat) (g b i : Nat) : hI (hsR h f a j v) g b i = hI h g b i := rfl
theorem hR_sR (h : hp_T) (f a j : Nat) (v : Option Nat) (g b i : Nat) : hR (hsR h f a j v) g b i = if g = f ∧ b = a ∧ i = j then v else hR h g b i := rfl
theorem hC_sI (h : hp_T) (f a j : Nat) (v : Int32) (i : Nat) : hC (hsI h f a j v) i = hC h i := rfl
theorem hC_sR (h : hp_T) (f a j : Nat) (v : Option Nat) (i : Nat) : hC (hsR h f a j v) i = hC h i := rfl
theorem hC_new (h : hp_T) (a kd n i : Nat) : hC (hnew h a kd n) i = hC h i := rfl
theorem hK_new (h : hp_T) (a kd n b : Nat) : hK (hnew h a kd n) b = if b = a then kd else hK h b := rfl
theorem hN_new (h : hp_T) (a kd n b : Nat) : hN (hnew h a kd n) b = if b = a then n else hN h b := rfl
theorem hI_new (h : hp_T) (a kd n g b i : Nat) : hI (hnew h a kd n) g b i = if b = a then 0 else hI h g b i := rfl
theorem hR_new (h : hp_T) (a kd n g b i : Nat) : hR (hnew h a kd n) g b i = if b = a then none else hR h g b i := rfl
/-! the kinds: 20 to 23 ArrayList (pages, tellings, panels, balloons), 2 Balloon, 3 Box, 4 Face, 5 Page, 6 Panel, 7 Reading, 8 Tail, 9 Telling, 10 Panelry, 11 PanelryModel; arrays: 100 + k the model's field k, 150 order, 151 worn, 152 print, 160 to 163 the lists' rows, 170 faces, 180 out, 190 the empty row that was there before -/
def kO (kd : Nat) : Option (Nat × List Bool) :=
  if kd = 20 ∨ kd = 21 ∨ kd = 22 ∨ kd = 23 then some (0, [false, true, false])
  else if kd = 2 then some (1, [false, false, false, true])
  else if kd = 3 then some (2, [false, false, false, false])
  else if kd = 4 then some (3, [true, false, false])
  else if kd = 5 then some (4, [true, true, false, false, true])
  else if kd = 6 then some (5, [true, true])
  else if kd = 7 then some (6, [true, false, true, false, false])
  else if kd = 8 then some (7, [false, false, false, false])
  else if kd = 9 then some (8, [false, false, false, false, false])
  else if kd = 10 then some (9, [true, true, false, false, false])
  else if kd = 11 then some (10, [false, true, true, true, true, true, true, true, true, true, true, true, true, false, true, true, true, true, true, true, true, true, true, true, true, true, false, true, true, true, true, true, false, false, false, true, false, true, false, false, true, false])
  else none
/-- the kind of an array's places: 0 int, 1 boolean, 2 long, 3 Object, 4 Face -/
def kA (kd : Nat) : Nat := if kd = 101 ∨ kd = 118 ∨ kd = 130 then 1 else if kd = 180 then 2 else if 160 ≤ kd ∧ kd ≤ 163 ∨ kd = 190 then 3 else if kd = 170 then 4 else 0
def kTy (n : Nat) : FieldType := match n with
  | 0 => .int
  | 1 => .boolean
  | 2 => .long
  | 3 => .object "java/lang/Object"
  | _ => .object "Panelry$Face"
def hp_fs (h : hp_T) (kd a : Nat) : Nat → List Bool → List Value
  | _, [] => []
  | k, b :: r => (if b then va_rf (hR h (64 * kd + k) a 0) else .int (hI h (64 * kd + k) a 0)) :: hp_fs h kd a (k + 1) r
def hp_ar (h : hp_T) (kd a : Nat) : vp_A := (hN h a, match kA kd with
  | 0 => .inl (hI h kd a)
  | 1 => .inl (hI h kd a)
  | 2 => .inr (.inl (fun j => (hI h kd a j).toInt64))
  | _ => .inr (.inr (.inr (.inr (hR h kd a)))))
def hp_ent (cy : Nat → ClassId) (h : hp_T) (a : Nat) : va_E := match kO (hK h a) with
  | some q => .inr (q.1, hp_fs h (hK h a) a 0 q.2)
  | none => .inl (cy (kA (hK h a)), hp_ar h (hK h a) a)
/-- an empty row that was there before: nothing is known of it but its kind -/
def eRow (cA : ClassId) (a : Nat) (H : Heap) : Prop := ∃ cell : Cell, H[a]? = some cell ∧ cell.cls = cA ∧ cell.vm ≠ .unknown ∧ cell.vm.isStatics = false ∧ cell.slots.size = 0
def rpC (D : va_G) (cy : Nat → ClassId) (h : hp_T) (a : Nat) (H : Heap) : Prop := (hK h a ≠ 190 → va_at D vwCl (a, hp_ent cy h a) H) ∧ (hK h a = 190 → hN h a = 0 ∧ eRow (cy 3) a H)
def RPh (B : Nat) (D : va_G) (cy : Nat → ClassId) (em : Nat × Nat) (h : hp_T) (H : Heap) : Prop := (∀ a, hK h a ≠ 0 → ((hK h a ≠ 190 ∧ B ≤ a) ∨ (hK h a = 190 ∧ a < B)) ∧ rpC D cy h a H) ∧ (hC h 0 = em.1 ∧ hC h 1 = em.2 ∧ hK h em.1 = 190 ∧ hN h em.1 = 0)
theorem hp_fs_get (h : hp_T) (kd a : Nat) : ∀ (fl : List Bool) (k i : Nat), (hp_fs h kd a k fl)[i]? = (fl[i]?).map (fun b => if b then va_rf (hR h (64 * kd + (k + i)) a 0) else .int (hI h (64 * kd + (k + i)) a 0))
  | [], k, i => by simp [hp_fs]
  | b :: r, k, 0 => by simp [hp_fs]
  | b :: r, k, i + 1 => by
    rw [hp_fs, List.getElem?_cons_succ, hp_fs_get h kd a r (k + 1) i, List.getElem?_cons_succ, show k + 1 + i = k + (i + 1) by omega]
theorem hp_fs_len (h : hp_T) (kd a : Nat) : ∀ (fl : List Bool) (k : Nat), (hp_fs h kd a k fl).length = fl.length
  | [], k => rfl
  | b :: r, k => by rw [hp_fs, List.length_cons, hp_fs_len h kd a r (k + 1), List.length_cons]
theorem rp_lt {B : Nat} {D : va_G} {cy : Nat → ClassId} {em : Nat × Nat} {h : hp_T} {H : Heap} (r : RPh B D cy em h H) {a : Nat} (ka : hK h a ≠ 0) : a < H.size := by
  by_cases e : hK h a = 190
  · obtain ⟨-, cell, z, -⟩ := (r.1 a ka).2.2 e
    exact (Array.getElem?_eq_some_iff.mp z).1
  · exact ((r.1 a ka).2.1 e).lt
theorem kO_n9 {kd ci : Nat} {fl : List Bool} (hk : kO kd = some (ci, fl)) : kd ≠ 190 := fun e => by
  rw [e] at hk
  simp [kO] at hk
theorem rpC_mv {D : va_G} {cy : Nat → ClassId} {h h' : hp_T} {H H1 : Heap} {a : Nat} (r : rpC D cy h a H) (e0 : hK h' a = hK h a) (e1 : hN h' a = hN h a) (ee : hp_ent cy h' a = hp_ent cy h a) (oq : H1[a]? = H[a]?) : rpC D cy h' a H1 := by
  obtain ⟨r1, r2⟩ := r
  refine ⟨fun z => ?_, fun z => ?_⟩
  · rw [ee]; rw [e0] at z; exact (r1 z).kept oq
  · rw [e0] at z
    obtain ⟨q1, cell, q2, q3⟩ := r2 z
    exact ⟨e1.trans q1, cell, oq.trans q2, q3⟩
theorem rp_low {B : Nat} {D : va_G} {cy : Nat → ClassId} {em : Nat × Nat} {h : hp_T} {H : Heap} (r : RPh B D cy em h H) {a : Nat} (ka : hK h a = 190) : a < B := by
  rcases (r.1 a (by rw [ka]; decide)).1 with c | c
  · exact absurd ka c.1
  · exact c.2
theorem rp_obj {B : Nat} {D : va_G} {cy : Nat → ClassId} {em : Nat × Nat} {h : hp_T} {H : Heap} (r : RPh B D cy em h H) {a kd : Nat} (ka : hK h a = kd) (h0 : kd ≠ 0) {ci : Nat} {fl : List Bool} (hk : kO kd = some (ci, fl)) : va_at D vwCl (a, .inr (ci, hp_fs h kd a 0 fl)) H := by
  have h1 := (r.1 a (by rw [ka]; exact h0)).2.1 (by rw [ka]; exact kO_n9 hk)
  unfold hp_ent at h1
  rw [ka, hk] at h1
  exact h1
theorem rp_arr {B : Nat} {D : va_G} {cy : Nat → ClassId} {em : Nat × Nat} {h : hp_T} {H : Heap} (r : RPh B D cy em h H) {a kd : Nat} (ka : hK h a = kd) (h0 : kd ≠ 0) (hk : kO kd = none) (h9 : kd ≠ 190) : va_at D vwCl (a, .inl (cy (kA kd), hp_ar h kd a)) H := by
  have h1 := (r.1 a (by rw [ka]; exact h0)).2.1 (by rw [ka]; exact h9)
  unfold hp_ent at h1
  rw [ka, hk] at h1
  exact h1
theorem va_P1 {D : va_G} {cl : List vw_C} {q : Nat × va_E} {H : Heap} (h : va_at D cl q H) : va_P D cl [q] H := fun k x hx => by
  match k, hx with
  | 0, hx => cases hx; exact h
  | k + 1, hx => simp at hx
theorem hp_fs_ne (h h' : hp_T) (kd a : Nat) (e : ∀ f i, hI h' f a i = hI h f a i) (e2 : ∀ f i, hR h' f a i = hR h f a i) : ∀ (fl : List Bool) (k : Nat), hp_fs h' kd a k fl = hp_fs h kd a k fl
  | [], k => rfl
  | b :: r, k => by rw [hp_fs, hp_fs, hp_fs_ne h h' kd a e e2 r (k + 1), e, e2]
theorem hp_ent_ne (cy : Nat → ClassId) (h h' : hp_T) (a : Nat) (e0 : hK h' a = hK h a) (e1 : hN h' a = hN h a) (e : ∀ f i, hI h' f a i = hI h f a i) (e2 : ∀ f i, hR h' f a i = hR h f a i) : hp_ent cy h' a = hp_ent cy h a := by
  unfold hp_ent hp_ar
  rw [e0, e1]
  have e3 : ∀ f, hI h' f a = hI h f a := fun f => funext (e f)
  have e4 : ∀ f, hR h' f a = hR h f a := fun f => funext (e2 f)
  simp only [hp_fs_ne h h' _ a e e2, e3, e4]
/-- one address's cell is another, all others stay -/
theorem rp_put {B : Nat} {D : va_G} {cy : Nat → ClassId} {em : Nat × Nat} {h h' : hp_T} {H H1 : Heap} {a : Nat} (r : RPh B D cy em h H) (hk : ∀ b, hK h' b = hK h b) (hn : ∀ b, hN h' b = hN h b) (hi : ∀ f b i, b ≠ a → hI h' f b i = hI h f b i) (hr : ∀ f b i, b ≠ a → hR h' f b i = hR h f b i) (hc : ∀ i, hC h' i = hC h i) (k9 : hK h a ≠ 190) (ha : va_at D vwCl (a, hp_ent cy h' a) H1) (oq : ∀ q : Nat, q ≠ a → H1[q]? = H[q]?) : RPh B D cy em h' H1 := by
  refine ⟨fun b hb => ?_, by rw [hc, hc, hk, hn]; exact r.2⟩
  rw [hk] at hb
  refine ⟨by rw [hk]; exact (r.1 b hb).1, ?_⟩
  by_cases e : b = a
  · subst e; exact ⟨fun _ => ha, fun z => absurd ((hk b).symm.trans z) k9⟩
  · exact rpC_mv (r.1 b hb).2 (hk b) (hn b) (hp_ent_ne cy h h' b (hk b) (hn b) (fun f i => hi f b i e) (fun f i => hr f b i e)) (oq b e)
theorem hp_fs_setI (h : hp_T) (kd a k : Nat) (v : Int32) : ∀ (fl : List Bool) (k0 i : Nat), k0 + i = k → fl[i]? = some false → hp_fs (hsI h (64 * kd + k) a 0 v) kd a k0 fl = (hp_fs h kd a k0 fl).set i (.int v) := by
  intro fl k0 i hk hf
  apply List.ext_getElem?
  intro j
  rw [List.getElem?_set, hp_fs_get, hp_fs_get, hp_fs_len]
  have hi := (List.getElem?_eq_some_iff.mp hf).1
  by_cases e : i = j
  · subst e
    rw [if_pos rfl, if_pos hi, hf]
    simp [hI_sI, hk]
  · rw [if_neg e]
    have : ¬ (k0 + j = k) := by omega
    simp [hI_sI, hR_sI, this]
theorem hp_fs_setR (h : hp_T) (kd a k : Nat) (v : Option Nat) : ∀ (fl : List Bool) (k0 i : Nat), k0 + i = k → fl[i]? = some true → hp_fs (hsR h (64 * kd + k) a 0 v) kd a k0 fl = (hp_fs h kd a k0 fl).set i (va_rf v) := by
  intro fl k0 i hk hf
  apply List.ext_getElem?
  intro j
  rw [List.getElem?_set, hp_fs_get, hp_fs_get, hp_fs_len]
  have hi := (List.getElem?_eq_some_iff.mp hf).1
  by_cases e : i = j
  · subst e
    rw [if_pos rfl, if_pos hi, hf]
    simp [hR_sR, hk]
  · rw [if_neg e]
    have : ¬ (k0 + j = k) := by omega
    simp [hR_sR, hI_sR, this]
theorem rp_setI {B : Nat} {D : va_G} {cy : Nat → ClassId} {em : Nat × Nat} {h : hp_T} {H H1 : Heap} {a kd k ci : Nat} {fl : List Bool} {v : Int32} (r : RPh B D cy em h H) (ka : hK h a = kd) (hk : kO kd = some (ci, fl)) (hf : fl[k]? = some false) (ha : va_at D vwCl (a, .inr (ci, (hp_fs h kd a 0 fl).set k (.int v))) H1) (oq : ∀ q : Nat, q ≠ a → H1[q]? = H[q]?) : RPh B D cy em (hsI h (64 * kd + k) a 0 v) H1 := by
  refine rp_put r (fun _ => rfl) (fun _ => rfl) (fun f b i e => by rw [hI_sI, if_neg (fun z => e z.2.1)]) (fun _ _ _ _ => rfl) (fun _ => rfl) (by rw [ka]; exact kO_n9 hk) ?_ oq
  unfold hp_ent
  rw [hK_sI, ka, hk]
  dsimp only
  rw [hp_fs_setI h kd a k v fl 0 k (by omega) hf]
  exact ha
theorem rp_setR {B : Nat} {D : va_G} {cy : Nat → ClassId} {em : Nat × Nat} {h : hp_T} {H H1 : Heap} {a kd k ci : Nat} {fl : List Bool} {v : Option Nat} (r : RPh B D cy em h H) (ka : hK h a = kd) (hk : kO kd = some (ci, fl)) (hf : fl[k]? = some true) (ha : va_at D vwCl (a, .inr (ci, (hp_fs h kd a 0 fl).set k (va_rf v))) H1) (oq : ∀ q : Nat, q ≠ a → H1[q]? = H[q]?) : RPh B D cy em (hsR h (64 * kd + k) a 0 v) H1 := by
  refine rp_put r (fun _ => rfl) (fun _ => rfl) (fun _ _ _ _ => rfl) (fun f b i e => by rw [hR_sR, if_neg (fun z => e z.2.1)]) (fun _ => rfl) (by rw [ka]; exact kO_n9 hk) ?_ oq
  unfold hp_ent
  rw [hK_sR, ka, hk]
  dsimp only
  rw [hp_fs_setR h kd a k v fl 0 k (by omega) hf]
  exact ha
/-- an array of whole numbers: one place is another -/
theorem rp_setAI {B : Nat} {D : va_G} {cy : Nat → ClassId} {em : Nat × Nat} {h : hp_T} {H H1 : Heap} {a kd j : Nat} {v : Int32} (r : RPh B D cy em h H) (ka : hK h a = kd) (hk : kO kd = none) (h9 : kd ≠ 190) (ha : va_at D vwCl (a, .inl (cy (kA kd), hp_ar (hsI h kd a j v) kd a)) H1) (oq : ∀ q : Nat, q ≠ a → H1[q]? = H[q]?) : RPh B D cy em (hsI h kd a j v) H1 := by
  refine rp_put r (fun _ => rfl) (fun _ => rfl) (fun f b i e => by rw [hI_sI, if_neg (fun z => e z.2.1)]) (fun _ _ _ _ => rfl) (fun _ => rfl) (by rw [ka]; exact h9) ?_ oq
  unfold hp_ent
  rw [hK_sI, ka, hk]
  exact ha
theorem rp_setAR {B : Nat} {D : va_G} {cy : Nat → ClassId} {em : Nat × Nat} {h : hp_T} {H H1 : Heap} {a kd j : Nat} {v : Option Nat} (r : RPh B D cy em h H) (ka : hK h a = kd) (hk : kO kd = none) (h9 : kd ≠ 190) (ha : va_at D vwCl (a, .inl (cy (kA kd), hp_ar (hsR h kd a j v) kd a)) H1) (oq : ∀ q : Nat, q ≠ a → H1[q]? = H[q]?) : RPh B D cy em (hsR h kd a j v) H1 := by
  refine rp_put r (fun _ => rfl) (fun _ => rfl) (fun _ _ _ _ => rfl) (fun f b i e => by rw [hR_sR, if_neg (fun z => e z.2.1)]) (fun _ => rfl) (by rw [ka]; exact h9) ?_ oq
  unfold hp_ent
  rw [hK_sR, ka, hk]
  exact ha
/-- a new cell -/
theorem rp_new {B : Nat} {D : va_G} {cy : Nat → ClassId} {em : Nat × Nat} {h : hp_T} {H H1 : Heap} {kd n : Nat} (r : RPh B D cy em h H) (h9 : kd ≠ 190) (hB : B ≤ H.size) (oq : ∀ q : Nat, q < H.size → H1[q]? = H[q]?) (ha : va_at D vwCl (H.size, hp_ent cy (hnew h H.size kd n) H.size) H1) : RPh B D cy em (hnew h H.size kd n) H1 := by
  have he : ¬ em.1 = H.size := fun q => absurd (rp_lt r (a := em.1) (by rw [r.2.2.2.1]; decide)) (by rw [q]; exact Nat.lt_irrefl _)
  refine ⟨fun b hb => ?_, by rw [hC_new, hC_new, hK_new, hN_new, if_neg he, if_neg he]; exact r.2⟩
  by_cases e : b = H.size
  · subst e; exact ⟨Or.inl ⟨by rw [hK_new, if_pos rfl]; exact h9, hB⟩, fun _ => ha, fun z => absurd z (by rw [hK_new, if_pos rfl]; exact h9)⟩
  · have ek : hK (hnew h H.size kd n) b = hK h b := by rw [hK_new, if_neg e]
    rw [ek] at hb
    have en : hN (hnew h H.size kd n) b = hN h b := by rw [hN_new, if_neg e]
    exact ⟨by rw [ek]; exact (r.1 b hb).1, rpC_mv (r.1 b hb).2 ek en (hp_ent_ne cy h _ b ek en (fun f i => by rw [hI_new, if_neg e]) (fun f i => by rw [hR_new, if_neg e])) (oq b (rp_lt r hb))⟩
theorem rp_fresh {B : Nat} {D : va_G} {cy : Nat → ClassId} {em : Nat × Nat} {h : hp_T} {H : Heap} (r : RPh B D cy em h H) : hK h H.size = 0 := by
  by_cases e : hK h H.size = 0
  · exact e
  · exact absurd (rp_lt r e) (Nat.lt_irrefl _)
/-- cells that came, nothing that changed -/
theorem rp_ext {B : Nat} {D : va_G} {cy : Nat → ClassId} {em : Nat × Nat} {h : hp_T} {H H1 : Heap} (r : RPh B D cy em h H) (oq : ∀ q : Nat, q < H.size → H1[q]? = H[q]?) : RPh B D cy em h H1 := ⟨fun b hb => ⟨(r.1 b hb).1, rpC_mv (r.1 b hb).2 rfl rfl rfl (oq b (rp_lt r hb))⟩, r.2⟩
