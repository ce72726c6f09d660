def tn (a b c d e f : Int) : Int := (c - a) * (f - b) - (d - b) * (e - a)
def opS (O T : Int) : Prop := ¬ (0 < O ∧ 0 < T) ∧ ¬ (O < 0 ∧ T < 0)
def inX (v a b : Int) : Prop := (a ≤ v ∧ v ≤ b) ∨ (b ≤ v ∧ v ≤ a)
def ovS (a b c d : Int) : Prop := min a b ≤ max c d ∧ min c d ≤ max a b
theorem opS.symm {O T : Int} (h : opS O T) : opS T O := ⟨fun z => h.1 ⟨z.2, z.1⟩, fun z => h.2 ⟨z.2, z.1⟩⟩
theorem opS.neg {O T : Int} (h : opS O T) : opS (-O) (-T) := ⟨fun z => h.2 ⟨by omega, by omega⟩, fun z => h.1 ⟨by omega, by omega⟩⟩
theorem wsum {T O R Q c d a b m : Int} (hT : 0 ≤ T) (hO : O ≤ 0) (hR : 0 ≤ R) (hQ : Q ≤ 0) (hS : 0 < T - O) (e1 : T * c - O * d = R * b - Q * a) (e2 : T - O = R - Q) (hc : m < c) (hd : m < d) (ha : a ≤ m) (hb : b ≤ m) : False := by
  have q1 := Int.mul_le_mul_of_nonneg_left (show m + 1 ≤ c by omega) hT
  have q2 := Int.mul_le_mul_of_nonneg_left (show m + 1 ≤ d by omega) (show 0 ≤ -O by omega)
  have q3 := Int.mul_le_mul_of_nonneg_left hb hR
  have q4 := Int.mul_le_mul_of_nonneg_left ha (show 0 ≤ -Q by omega)
  have q5 : T * m - O * m = R * m - Q * m := by rw [← Int.sub_mul, ← Int.sub_mul, e2]
  rw [Int.mul_add, Int.mul_one] at q1 q2
  rw [Int.neg_mul, Int.neg_mul] at q2 q4
  omega
theorem ov_of {O T R Q a b c d : Int} (e1 : T * c - O * d = R * b - Q * a) (e2 : T - O = R - Q) (h1 : opS O T) (h2 : opS R Q) (hS : T - O ≠ 0) : ovS a b c d := by
  have k : ∀ {O T R Q a b c d : Int}, T * c - O * d = R * b - Q * a → T - O = R - Q → opS O T → opS R Q → 0 < T - O → ovS a b c d := by
    intro O T R Q a b c d e1 e2 h1 h2 hS
    obtain ⟨p1, p2⟩ := h1
    obtain ⟨p3, p4⟩ := h2
    unfold ovS
    constructor
    · refine Classical.byContradiction fun z => ?_
      refine wsum (T := T) (O := O) (R := R) (Q := Q) (a := -a) (b := -b) (c := -c) (d := -d) (m := -(min a b)) (by omega) (by omega) (by omega) (by omega) hS ?_ e2 (by omega) (by omega) (by omega) (by omega)
      simp only [Int.mul_neg]
      omega
    · refine Classical.byContradiction fun z => ?_
      exact wsum (T := T) (O := O) (R := R) (Q := Q) (a := a) (b := b) (c := c) (d := d) (m := max a b) (by omega) (by omega) (by omega) (by omega) hS e1 e2 (by omega) (by omega) (by omega) (by omega)
  by_cases c0 : 0 < T - O
  · exact k e1 e2 h1 h2 c0
  · refine k (O := -O) (T := -T) (R := -R) (Q := -Q) ?_ (by omega) h1.neg h2.neg (by omega)
    simp only [Int.neg_mul]
    omega
theorem same0 {p q u v : Int} (hp : 0 < p) (hq : 0 < q) (e : v * p = u * q) (h : u * v ≤ 0) : u = 0 ∧ v = 0 := by
  rcases Int.lt_trichotomy u 0 with hu | hu | hu
  · exfalso
    have h1 := Int.mul_neg_of_neg_of_pos hu hq
    have h2 : v < 0 := Classical.byContradiction fun z => by
      have := Int.mul_nonneg (show 0 ≤ v by omega) (show 0 ≤ p by omega)
      omega
    have := Int.mul_pos_of_neg_of_neg hu h2
    omega
  · subst hu
    rw [Int.zero_mul] at e
    rcases Int.mul_eq_zero.mp e with z | z
    · exact ⟨rfl, z⟩
    · omega
  · exfalso
    have h1 := Int.mul_pos hu hq
    have h2 : 0 < v := Classical.byContradiction fun z => by
      have := Int.mul_nonneg (show 0 ≤ -v by omega) (show 0 ≤ p by omega)
      rw [Int.neg_mul] at this
      omega
    have := Int.mul_pos hu h2
    omega
theorem opp_of {ux uy vx vy wx wy : Int} (e : ux * vy = uy * vx) (hx : ux * vx ≤ 0) (hy : uy * vy ≤ 0) : opS (wx * uy - wy * ux) (wx * vy - wy * vx) := by
  have k : ∀ wx wy : Int, ¬ (0 < wx * uy - wy * ux ∧ 0 < wx * vy - wy * vx) := by
    rintro wx wy ⟨hp, hq⟩
    have e1 : vx * (wx * uy - wy * ux) = ux * (wx * vy - wy * vx) := by grind
    have e2 : vy * (wx * uy - wy * ux) = uy * (wx * vy - wy * vx) := by grind
    obtain ⟨z1, z2⟩ := same0 hp hq e1 hx
    obtain ⟨z3, z4⟩ := same0 hp hq e2 hy
    subst z1 z3
    simp at hp
  refine ⟨k wx wy, fun z => k (-wx) (-wy) ?_⟩
  simp only [Int.neg_mul]
  omega
theorem in_mul {v a b : Int} (h : inX v a b) : (a - v) * (b - v) ≤ 0 := by
  rcases h with ⟨h1, h2⟩ | ⟨h1, h2⟩
  · have := Int.mul_nonneg (show 0 ≤ v - a by omega) (show 0 ≤ b - v by omega)
    have e : (a - v) * (b - v) = -((v - a) * (b - v)) := by rw [← Int.neg_mul]; congr 1; omega
    omega
  · have := Int.mul_nonneg (show 0 ≤ a - v by omega) (show 0 ≤ v - b by omega)
    have e : (a - v) * (b - v) = -((a - v) * (v - b)) := by rw [← Int.mul_neg]; congr 1; omega
    omega
theorem btw_y {ax ay bx by_ cx cy : Int} (ne : ax ≠ bx) (h : inX cx ax bx) (e : (bx - ax) * (cy - ay) = (by_ - ay) * (cx - ax)) : inX cy ay by_ := by
  have k : ∀ {dx dy x y : Int}, 0 < dx → 0 ≤ x → x ≤ dx → dx * y = dy * x → (0 ≤ y ∧ y ≤ dy) ∨ (dy ≤ y ∧ y ≤ 0) := by
    intro dx dy x y hd h0 h1 e
    by_cases hy : 0 ≤ dy
    · left
      have q1 := Int.mul_nonneg hy h0
      have q2 := Int.mul_le_mul_of_nonneg_left h1 hy
      constructor
      · refine Int.le_of_mul_le_mul_left (a := dx) ?_ hd
        rw [Int.mul_zero, e]; exact q1
      · refine Int.le_of_mul_le_mul_left (a := dx) ?_ hd
        rw [e, Int.mul_comm dx dy]; exact q2
    · right
      have q1 := Int.mul_nonneg (show 0 ≤ -dy by omega) h0
      have q2 := Int.mul_le_mul_of_nonneg_left h1 (show 0 ≤ -dy by omega)
      rw [Int.neg_mul] at q1 q2
      rw [Int.neg_mul] at q2
      constructor
      · refine Int.le_of_mul_le_mul_left (a := dx) ?_ hd
        rw [e, Int.mul_comm dx dy]; omega
      · refine Int.le_of_mul_le_mul_left (a := dx) ?_ hd
        rw [Int.mul_zero, e]; omega
  unfold inX
  by_cases c : ax < bx
  · have := k (dx := bx - ax) (dy := by_ - ay) (x := cx - ax) (y := cy - ay) (by omega) (by rcases h with h | h <;> omega) (by rcases h with h | h <;> omega) e
    omega
  · have e2 : (ax - bx) * (cy - ay) = (by_ - ay) * (ax - cx) := by
      have q : ∀ p q r s : Int, p * q = r * s → (-p) * q = r * (-s) := fun p q r s h => by rw [Int.neg_mul, Int.mul_neg, h]
      have := q _ _ _ _ e
      rw [show -(bx - ax) = ax - bx by omega, show -(cx - ax) = ax - cx by omega] at this
      exact this
    have := k (dx := ax - bx) (dy := by_ - ay) (x := ax - cx) (y := cy - ay) (by omega) (by rcases h with h | h <;> omega) (by rcases h with h | h <;> omega) e2
    omega
def in2 (px py ax ay bx by_ : Int) : Prop := inX px ax bx ∧ inX py ay by_
theorem coll {ax ay bx by_ cx cy dx dy : Int} (hO : tn ax ay bx by_ cx cy = 0) (hT : tn ax ay bx by_ dx dy = 0) (hR : tn cx cy dx dy ax ay = 0) (hQ : tn cx cy dx dy bx by_ = 0) (ox : ovS ax bx cx dx) (oy : ovS ay by_ cy dy) : in2 cx cy ax ay bx by_ ∨ in2 dx dy ax ay bx by_ ∨ in2 ax ay cx cy dx dy := by
  unfold tn at hO hT hR hQ
  unfold ovS at ox oy
  by_cases e1 : ax = bx
  · by_cases e2 : ay = by_
    · subst e1 e2
      right; right
      unfold in2 inX
      omega
    · subst e1
      rw [Int.sub_self, Int.zero_mul] at hO hT
      have c1 : cx = ax := by
        rcases Int.mul_eq_zero.mp (show (by_ - ay) * (cx - ax) = 0 by omega) with z | z <;> omega
      have c2 : dx = ax := by
        rcases Int.mul_eq_zero.mp (show (by_ - ay) * (dx - ax) = 0 by omega) with z | z <;> omega
      subst c1
      unfold in2 inX
      omega
  · have x3 : inX cx ax bx ∨ inX dx ax bx ∨ (cx ≠ dx ∧ inX ax cx dx) := by unfold inX; omega
    rcases x3 with z | z | ⟨z1, z2⟩
    · exact Or.inl ⟨z, btw_y e1 z (by omega)⟩
    · exact Or.inr (Or.inl ⟨z, btw_y e1 z (by omega)⟩)
    · exact Or.inr (Or.inr ⟨z2, btw_y z1 z2 (by omega)⟩)
/-- two lines meet if their frames do and neither lies wholly on one side of the other -/
def metZ (ax ay bx by_ cx cy dx dy : Int) : Prop := ovS ax bx cx dx ∧ ovS ay by_ cy dy ∧ opS (tn ax ay bx by_ cx cy) (tn ax ay bx by_ dx dy) ∧ opS (tn cx cy dx dy ax ay) (tn cx cy dx dy bx by_)
def sgZ (O T : Int) : Prop := (0 < O ↔ 0 < T) ∧ (O < 0 ↔ T < 0)
def crsZ (ax ay bx by_ cx cy dx dy : Int) : Prop := ((((¬ sgZ (tn ax ay bx by_ cx cy) (tn ax ay bx by_ dx dy) ∧ ¬ sgZ (tn cx cy dx dy ax ay) (tn cx cy dx dy bx by_) ∧ opS (tn ax ay bx by_ cx cy) (tn ax ay bx by_ dx dy) ∧ opS (tn cx cy dx dy ax ay) (tn cx cy dx dy bx by_) ∧ ¬ (tn ax ay bx by_ cx cy = 0 ∧ tn ax ay bx by_ dx dy = 0)) ∨ (tn ax ay bx by_ cx cy = 0 ∧ in2 cx cy ax ay bx by_)) ∨ (tn ax ay bx by_ dx dy = 0 ∧ in2 dx dy ax ay bx by_)) ∨ (tn cx cy dx dy ax ay = 0 ∧ in2 ax ay cx cy dx dy)) ∨ (tn cx cy dx dy bx by_ = 0 ∧ in2 bx by_ cx cy dx dy)
theorem tn_id (ax ay bx by_ cx cy dx dy : Int) : (tn ax ay bx by_ dx dy * cx - tn ax ay bx by_ cx cy * dx = tn cx cy dx dy ax ay * bx - tn cx cy dx dy bx by_ * ax) ∧ (tn ax ay bx by_ dx dy * cy - tn ax ay bx by_ cx cy * dy = tn cx cy dx dy ax ay * by_ - tn cx cy dx dy bx by_ * ay) ∧ tn ax ay bx by_ dx dy - tn ax ay bx by_ cx cy = tn cx cy dx dy ax ay - tn cx cy dx dy bx by_ := by
  unfold tn
  refine ⟨by grind, by grind, by grind⟩
theorem in2_met {ax ay bx by_ cx cy dx dy : Int} (h0 : tn ax ay bx by_ cx cy = 0) (h : in2 cx cy ax ay bx by_) : metZ ax ay bx by_ cx cy dx dy := by
  obtain ⟨h1, h2⟩ := h
  have m1 := in_mul h1
  have m2 := in_mul h2
  refine ⟨by unfold ovS; unfold inX at h1; omega, by unfold ovS; unfold inX at h2; omega, by rw [h0]; exact ⟨fun z => by omega, fun z => by omega⟩, ?_⟩
  have e : (ax - cx) * (by_ - cy) = (ay - cy) * (bx - cx) := by unfold tn at h0; grind
  exact opp_of (wx := dx - cx) (wy := dy - cy) e m1 m2
theorem metZ.swap {ax ay bx by_ cx cy dx dy : Int} (h : metZ ax ay bx by_ cx cy dx dy) : metZ cx cy dx dy ax ay bx by_ := ⟨⟨h.1.2, h.1.1⟩, ⟨h.2.1.2, h.2.1.1⟩, h.2.2.2, h.2.2.1⟩
theorem tn_rev (ax ay bx by_ cx cy : Int) : tn bx by_ ax ay cx cy = - tn ax ay bx by_ cx cy := by unfold tn; grind
theorem metZ.rev {ax ay bx by_ cx cy dx dy : Int} (h : metZ ax ay bx by_ dx dy cx cy) : metZ ax ay bx by_ cx cy dx dy := by
  obtain ⟨h1, h2, h3, h4⟩ := h
  refine ⟨by unfold ovS at *; omega, by unfold ovS at *; omega, h3.symm, ?_⟩
  rw [tn_rev cx cy dx dy, tn_rev cx cy dx dy] at h4
  have := h4.neg
  rw [Int.neg_neg, Int.neg_neg] at this
  exact this
theorem met_crs (ax ay bx by_ cx cy dx dy : Int) : metZ ax ay bx by_ cx cy dx dy ↔ crsZ ax ay bx by_ cx cy dx dy := by
  obtain ⟨i1, i2, i3⟩ := tn_id ax ay bx by_ cx cy dx dy
  constructor
  · rintro ⟨h1, h2, h3, h4⟩
    unfold crsZ
    by_cases s : tn ax ay bx by_ dx dy - tn ax ay bx by_ cx cy = 0
    · have q : tn ax ay bx by_ cx cy = 0 ∧ tn ax ay bx by_ dx dy = 0 ∧ tn cx cy dx dy ax ay = 0 ∧ tn cx cy dx dy bx by_ = 0 := by
        unfold opS at h3 h4
        omega
      obtain ⟨q1, q2, q3, q4⟩ := q
      rcases coll q1 q2 q3 q4 h1 h2 with z | z | z
      · exact Or.inl (Or.inl (Or.inl (Or.inr ⟨q1, z⟩)))
      · exact Or.inl (Or.inl (Or.inr ⟨q2, z⟩))
      · exact Or.inl (Or.inr ⟨q3, z⟩)
    · refine Or.inl (Or.inl (Or.inl (Or.inl ⟨?_, ?_, h3, h4, ?_⟩)))
      · unfold sgZ; unfold opS at h3; omega
      · unfold sgZ; unfold opS at h4; omega
      · omega
  · rintro ((((⟨h1, h2, h3, h4, h5⟩ | ⟨h1, h2⟩) | ⟨h1, h2⟩) | ⟨h1, h2⟩) | ⟨h1, h2⟩)
    · have s : tn ax ay bx by_ dx dy - tn ax ay bx by_ cx cy ≠ 0 := by unfold sgZ at h1; omega
      exact ⟨ov_of i1 i3 h3 h4 s, ov_of i2 i3 h3 h4 s, h3, h4⟩
    · exact in2_met h1 h2
    · exact (in2_met h1 h2).rev
    · exact (in2_met h1 h2).swap
    · exact (metZ.rev (in2_met (dx := ax) (dy := ay) h1 h2)).swap
