def rcZ (a b x y w h : Int) : Prop := inX a x (x + w) ∧ inX b y (y + h)
def allP (a b c d x y w h : Int) : Prop := 0 < tn a b c d x y ∧ 0 < tn a b c d (x + w) y ∧ 0 < tn a b c d x (y + h) ∧ 0 < tn a b c d (x + w) (y + h)
def allN (a b c d x y w h : Int) : Prop := tn a b c d x y < 0 ∧ tn a b c d (x + w) y < 0 ∧ tn a b c d x (y + h) < 0 ∧ tn a b c d (x + w) (y + h) < 0
def touZ (a b c d x y w h : Int) : Prop := ¬ (allP a b c d x y w h ∨ allN a b c d x y w h) ∧ ovS a c x (x + w) ∧ ovS b d y (y + h)
def sidZ (a b c d x y w h : Int) : Prop := (metZ a b c d x y (x + w) y ∨ metZ a b c d x (y + h) (x + w) (y + h)) ∨ metZ a b c d x y x (y + h) ∨ metZ a b c d (x + w) y (x + w) (y + h)
theorem corner {p q u0 u1 v0 v1 : Int} (hu0 : u0 ≤ 0) (hu1 : 0 ≤ u1) (hv0 : v0 ≤ 0) (hv1 : 0 ≤ v1) : ¬ (0 < p * v0 - q * u0 ∧ 0 < p * v0 - q * u1 ∧ 0 < p * v1 - q * u0 ∧ 0 < p * v1 - q * u1) := by
  rintro ⟨h1, h2, h3, h4⟩
  by_cases hp : 0 ≤ p
  · have a1 := Int.mul_nonneg hp (show 0 ≤ -v0 by omega)
    rw [Int.mul_neg] at a1
    by_cases hq : 0 ≤ q
    · have a2 := Int.mul_nonneg hq hu1
      omega
    · have a2 := Int.mul_nonneg (show 0 ≤ -q by omega) (show 0 ≤ -u0 by omega)
      rw [Int.neg_mul_neg] at a2
      omega
  · have a1 := Int.mul_nonneg (show 0 ≤ -p by omega) hv1
    rw [Int.neg_mul] at a1
    by_cases hq : 0 ≤ q
    · have a2 := Int.mul_nonneg hq hu1
      omega
    · have a2 := Int.mul_nonneg (show 0 ≤ -q by omega) (show 0 ≤ -u0 by omega)
      rw [Int.neg_mul_neg] at a2
      omega
theorem in_not {a b c d e f x y w h : Int} (hw : 0 ≤ w) (hh : 0 ≤ h) (he : ∀ px py, tn a b c d px py = (c - a) * (py - f) - (d - b) * (px - e)) (hr : rcZ e f x y w h) : ¬ (allP a b c d x y w h ∨ allN a b c d x y w h) := by
  obtain ⟨r1, r2⟩ := hr
  unfold inX at r1 r2
  rintro (z | z)
  · unfold allP at z
    simp only [he] at z
    exact corner (p := c - a) (q := d - b) (u0 := x - e) (u1 := x + w - e) (v0 := y - f) (v1 := y + h - f) (by omega) (by omega) (by omega) (by omega) ⟨z.1, z.2.1, z.2.2.1, z.2.2.2⟩
  · unfold allN at z
    simp only [he] at z
    refine corner (p := -(c - a)) (q := -(d - b)) (u0 := x - e) (u1 := x + w - e) (v0 := y - f) (v1 := y + h - f) (by omega) (by omega) (by omega) (by omega) ?_
    simp only [Int.neg_mul]
    omega
theorem tou_of {a b c d x y w h : Int} (hw : 0 ≤ w) (hh : 0 ≤ h) (H : (rcZ a b x y w h ∨ rcZ c d x y w h) ∨ sidZ a b c d x y w h) : touZ a b c d x y w h := by
  have side : ∀ {ex ey fx fy : Int}, metZ a b c d ex ey fx fy → (x ≤ ex ∧ ex ≤ x + w) → (x ≤ fx ∧ fx ≤ x + w) → (y ≤ ey ∧ ey ≤ y + h) → (y ≤ fy ∧ fy ≤ y + h) → ovS a c x (x + w) ∧ ovS b d y (y + h) ∧ opS (tn a b c d ex ey) (tn a b c d fx fy) := by
    intro ex ey fx fy m h1 h2 h3 h4
    obtain ⟨m1, m2, m3, -⟩ := m
    unfold ovS at *
    exact ⟨by omega, by omega, m3⟩
  rcases H with (z | z) | (z | z) | z | z
  · refine ⟨in_not (e := a) (f := b) hw hh (fun _ _ => rfl) z, ?_, ?_⟩
    · have := z.1; unfold inX at this; unfold ovS; omega
    · have := z.2; unfold inX at this; unfold ovS; omega
  · refine ⟨in_not (e := c) (f := d) hw hh (fun px py => by unfold tn; grind) z, ?_, ?_⟩
    · have := z.1; unfold inX at this; unfold ovS; omega
    · have := z.2; unfold inX at this; unfold ovS; omega
  · obtain ⟨s1, s2, s3⟩ := side z (by omega) (by omega) (by omega) (by omega)
    exact ⟨fun q => by unfold allP allN at q; unfold opS at s3; omega, s1, s2⟩
  · obtain ⟨s1, s2, s3⟩ := side z (by omega) (by omega) (by omega) (by omega)
    exact ⟨fun q => by unfold allP allN at q; unfold opS at s3; omega, s1, s2⟩
  · obtain ⟨s1, s2, s3⟩ := side z (by omega) (by omega) (by omega) (by omega)
    exact ⟨fun q => by unfold allP allN at q; unfold opS at s3; omega, s1, s2⟩
  · obtain ⟨s1, s2, s3⟩ := side z (by omega) (by omega) (by omega) (by omega)
    exact ⟨fun q => by unfold allP allN at q; unfold opS at s3; omega, s1, s2⟩
/-- the line comes in from the lower left -/
theorem enter {a b c d x y w h : Int} (hw : 0 ≤ w) (hh : 0 ≤ h) (hp : a ≤ c) (hq : b ≤ d) (H : touZ a b c d x y w h) : rcZ a b x y w h ∨ metZ a b c d x y (x + w) y ∨ metZ a b c d x y x (y + h) := by
  obtain ⟨h1, h2, h3⟩ := H
  by_cases r : rcZ a b x y w h
  · exact Or.inl r
  · right
    have p0 : 0 ≤ c - a := by omega
    have q0 : 0 ≤ d - b := by omega
    have mw := Int.mul_nonneg q0 hw
    have mh := Int.mul_nonneg p0 hh
    have t1 : tn a b c d x y = tn a b c d (x + w) y + (d - b) * w := by unfold tn; grind
    have t2 : tn a b c d (x + w) (y + h) = tn a b c d (x + w) y + (c - a) * h := by unfold tn; grind
    have t3 : tn a b c d x (y + h) = tn a b c d (x + w) y + (d - b) * w + (c - a) * h := by unfold tn; grind
    have lo : tn a b c d (x + w) y ≤ 0 := Classical.byContradiction fun z => h1 (Or.inl ⟨by omega, by omega, by omega, by omega⟩)
    have hi : 0 ≤ tn a b c d x (y + h) := Classical.byContradiction fun z => h1 (Or.inr ⟨by omega, by omega, by omega, by omega⟩)
    have hr : ¬ (x ≤ a ∧ a ≤ x + w ∧ y ≤ b ∧ b ≤ y + h) := fun z => r ⟨Or.inl ⟨z.1, z.2.1⟩, Or.inl z.2.2⟩
    unfold ovS at h2 h3
    have e0 : tn a b c d x y = (c - a) * (y - b) - (d - b) * (x - a) := rfl
    by_cases s : tn a b c d x y ≤ 0
    · right
      have ax : a ≤ x := by
        refine Classical.byContradiction fun z => ?_
        have m1 := Int.mul_le_mul_of_nonneg_left (show 1 ≤ y - b by omega) p0
        have m2 := Int.mul_le_mul_of_nonneg_left (show 1 ≤ a - x by omega) q0
        rw [Int.mul_one] at m1 m2
        have m3 : (d - b) * (x - a) = -((d - b) * (a - x)) := by rw [← Int.mul_neg]; congr 1; omega
        omega
      have k1 : tn x y x (y + h) a b = h * (x - a) := by unfold tn; grind
      have k2 : tn x y x (y + h) c d = -(h * (c - x)) := by unfold tn; grind
      have n1 := Int.mul_nonneg hh (show 0 ≤ x - a by omega)
      have n2 := Int.mul_nonneg hh (show 0 ≤ c - x by omega)
      refine ⟨by unfold ovS; omega, by unfold ovS; omega, ⟨fun z => by omega, fun z => by omega⟩, ?_⟩
      rw [k1, k2]
      exact ⟨fun z => by omega, fun z => by omega⟩
    · left
      have ay : b ≤ y := by
        refine Classical.byContradiction fun z => ?_
        have m1 := Int.mul_nonneg p0 (show 0 ≤ b - y by omega)
        have m2 := Int.mul_nonneg q0 (show 0 ≤ x - a by omega)
        have m3 : (c - a) * (y - b) = -((c - a) * (b - y)) := by rw [← Int.mul_neg]; congr 1; omega
        omega
      have k1 : tn x y (x + w) y a b = w * (b - y) := by unfold tn; grind
      have k2 : tn x y (x + w) y c d = w * (d - y) := by unfold tn; grind
      have n1 := Int.mul_nonneg hw (show 0 ≤ y - b by omega)
      have n2 := Int.mul_nonneg hw (show 0 ≤ d - y by omega)
      have n3 : w * (b - y) = -(w * (y - b)) := by rw [← Int.mul_neg]; congr 1; omega
      refine ⟨by unfold ovS; omega, by unfold ovS; omega, ⟨fun z => by omega, fun z => by omega⟩, ?_⟩
      rw [k1, k2]
      exact ⟨fun z => by omega, fun z => by omega⟩
theorem tn_rx (a b c d e f : Int) : tn (-a) b (-c) d (-e) f = - tn a b c d e f := by unfold tn; grind
theorem tn_ry (a b c d e f : Int) : tn a (-b) c (-d) e (-f) = - tn a b c d e f := by unfold tn; grind
theorem metZ.rx {a b c d e f g i : Int} (h : metZ (-a) b (-c) d (-e) f (-g) i) : metZ a b c d e f g i := by
  obtain ⟨h1, h2, h3, h4⟩ := h
  rw [tn_rx, tn_rx] at h3 h4
  have k3 := h3.neg
  have k4 := h4.neg
  rw [Int.neg_neg, Int.neg_neg] at k3 k4
  exact ⟨by unfold ovS at *; omega, h2, k3, k4⟩
theorem metZ.ry {a b c d e f g i : Int} (h : metZ a (-b) c (-d) e (-f) g (-i)) : metZ a b c d e f g i := by
  obtain ⟨h1, h2, h3, h4⟩ := h
  rw [tn_ry, tn_ry] at h3 h4
  have k3 := h3.neg
  have k4 := h4.neg
  rw [Int.neg_neg, Int.neg_neg] at k3 k4
  exact ⟨h1, by unfold ovS at *; omega, k3, k4⟩
theorem touZ.rx {a b c d x y w h : Int} (H : touZ a b c d x y w h) : touZ (-a) b (-c) d (-(x + w)) y w h := by
  obtain ⟨h1, h2, h3⟩ := H
  refine ⟨fun z => h1 ?_, by unfold ovS at *; omega, h3⟩
  unfold allP allN at *
  rw [show -(x + w) + w = -x by omega] at z
  simp only [tn_rx] at z
  omega
theorem touZ.ry {a b c d x y w h : Int} (H : touZ a b c d x y w h) : touZ a (-b) c (-d) x (-(y + h)) w h := by
  obtain ⟨h1, h2, h3⟩ := H
  refine ⟨fun z => h1 ?_, h2, by unfold ovS at *; omega⟩
  unfold allP allN at *
  rw [show -(y + h) + h = -y by omega] at z
  simp only [tn_ry] at z
  omega
/-- the line comes in from below, or from above -/
theorem enter2 {a b c d x y w h : Int} (hw : 0 ≤ w) (hh : 0 ≤ h) (hp : a ≤ c) (H : touZ a b c d x y w h) : rcZ a b x y w h ∨ sidZ a b c d x y w h := by
  by_cases hq : b ≤ d
  · rcases enter hw hh hp hq H with z | z | z
    · exact Or.inl z
    · exact Or.inr (Or.inl (Or.inl z))
    · exact Or.inr (Or.inr (Or.inl z))
  · rcases enter hw hh hp (by omega) H.ry with z | z | z
    · left
      unfold rcZ inX at *
      omega
    · exact Or.inr (Or.inl (Or.inr z.ry))
    · rw [show -(y + h) + h = -y by omega] at z
      exact Or.inr (Or.inr (Or.inl z.ry.rev))
theorem tou_sid {a b c d x y w h : Int} (hw : 0 ≤ w) (hh : 0 ≤ h) (H : touZ a b c d x y w h) : rcZ a b x y w h ∨ sidZ a b c d x y w h := by
  by_cases hp : a ≤ c
  · exact enter2 hw hh hp H
  · rcases enter2 hw hh (by omega) H.rx with z | (z | z) | z | z
    · left
      unfold rcZ inX at *
      omega
    · rw [show -(x + w) + w = -x by omega] at z
      exact Or.inr (Or.inl (Or.inl z.rx.rev))
    · rw [show -(x + w) + w = -x by omega] at z
      exact Or.inr (Or.inl (Or.inr z.rx.rev))
    · exact Or.inr (Or.inr (Or.inr z.rx))
    · rw [show -(x + w) + w = -x by omega] at z
      exact Or.inr (Or.inr (Or.inl z.rx))
theorem tou_hit {a b c d x y w h : Int} (hw : 0 ≤ w) (hh : 0 ≤ h) : touZ a b c d x y w h ↔ (rcZ a b x y w h ∨ rcZ c d x y w h) ∨ sidZ a b c d x y w h :=
  ⟨fun H => (tou_sid hw hh H).elim (fun z => Or.inl (Or.inl z)) Or.inr, tou_of hw hh⟩
