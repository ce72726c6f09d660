def iZ (n : Int) : Int32 := Int32.ofInt n
theorem iZ_i (x : Int32) : iZ x.toInt = x := Int32.ofInt_toInt x
theorem iZ_t {n : Int} (h : -1000000000 ≤ n ∧ n ≤ 1000000000) : (iZ n).toInt = n := Int32.toInt_ofInt_of_le (by omega) (by omega)
theorem iZ_lt {a b : Int} (ha : -1000000000 ≤ a ∧ a ≤ 1000000000) (hb : -1000000000 ≤ b ∧ b ≤ 1000000000) : iZ a < iZ b ↔ a < b := by rw [Int32.lt_iff_toInt_lt, iZ_t ha, iZ_t hb]
theorem iZ_le {a b : Int} (ha : -1000000000 ≤ a ∧ a ≤ 1000000000) (hb : -1000000000 ≤ b ∧ b ≤ 1000000000) : iZ a ≤ iZ b ↔ a ≤ b := by rw [Int32.le_iff_toInt_le, iZ_t ha, iZ_t hb]
theorem iZ_eq {a b : Int} (ha : -1000000000 ≤ a ∧ a ≤ 1000000000) (hb : -1000000000 ≤ b ∧ b ≤ 1000000000) : iZ a = iZ b ↔ a = b := by rw [← Int32.toInt_inj, iZ_t ha, iZ_t hb]
theorem iZ_add (a b : Int) : iZ a + iZ b = iZ (a + b) := (Int32.ofInt_add a b).symm
theorem iZ_sub (a b : Int) : iZ a - iZ b = iZ (a - b) := (Int32.ofInt_sub a b).symm
theorem iZ_mul (a b : Int) : iZ a * iZ b = iZ (a * b) := (Int32.ofInt_mul a b).symm
theorem iZ_0 : iZ 0 = 0 := rfl
theorem mulB {p q : Int} (hp : -2000 ≤ p ∧ p ≤ 2000) (hq : -2000 ≤ q ∧ q ≤ 2000) : -4000000 ≤ p * q ∧ p * q ≤ 4000000 := by
  have h1 := Int.mul_nonneg (show 0 ≤ 2000 - p by omega) (show 0 ≤ 2000 - q by omega)
  have h2 := Int.mul_nonneg (show 0 ≤ 2000 + p by omega) (show 0 ≤ 2000 + q by omega)
  have h3 := Int.mul_nonneg (show 0 ≤ 2000 - p by omega) (show 0 ≤ 2000 + q by omega)
  have h4 := Int.mul_nonneg (show 0 ≤ 2000 + p by omega) (show 0 ≤ 2000 - q by omega)
  simp only [Int.sub_mul, Int.mul_sub, Int.add_mul, Int.mul_add] at h1 h2 h3 h4
  omega
def sB1 (a : Int) : Prop := -1000 ≤ a ∧ a ≤ 1000
theorem tnB {a b c d e f : Int} (ha : sB1 a) (hb : sB1 b) (hc : sB1 c) (hd : sB1 d) (he : sB1 e) (hf : sB1 f) : (-4000000 ≤ (c - a) * (f - b) ∧ (c - a) * (f - b) ≤ 4000000) ∧ (-4000000 ≤ (d - b) * (e - a) ∧ (d - b) * (e - a) ≤ 4000000) := by
  unfold sB1 at *
  exact ⟨mulB (by omega) (by omega), mulB (by omega) (by omega)⟩
def sg3 (O : Int) : Int32 := if 0 < O then 1 else if O < 0 then -1 else 0
theorem sg3_3 (O : Int) : (0 < O ∧ sg3 O = 1) ∨ (O < 0 ∧ sg3 O = -1) ∨ (O = 0 ∧ sg3 O = 0) := by
  unfold sg3
  by_cases h1 : 0 < O
  · exact Or.inl ⟨h1, if_pos h1⟩
  · by_cases h2 : O < 0
    · exact Or.inr (Or.inl ⟨h2, by rw [if_neg h1, if_pos h2]⟩)
    · exact Or.inr (Or.inr ⟨by omega, by rw [if_neg h1, if_neg h2]⟩)
theorem sg3_0 (O : Int) : sg3 O = 0 ↔ O = 0 := by
  rcases sg3_3 O with ⟨h, e⟩ | ⟨h, e⟩ | ⟨h, e⟩ <;> rw [e]
  · exact ⟨fun z => absurd z (by decide), fun z => by omega⟩
  · exact ⟨fun z => absurd z (by decide), fun z => by omega⟩
  · exact ⟨fun _ => h, fun _ => rfl⟩
theorem sg3_e (O T : Int) : sg3 O = sg3 T ↔ sgZ O T := by
  unfold sgZ
  rcases sg3_3 O with ⟨h, e⟩ | ⟨h, e⟩ | ⟨h, e⟩ <;> rcases sg3_3 T with ⟨h2, e2⟩ | ⟨h2, e2⟩ | ⟨h2, e2⟩ <;> rw [e, e2]
  · exact ⟨fun _ => by omega, fun _ => rfl⟩
  · exact ⟨fun z => absurd z (by decide), fun z => by omega⟩
  · exact ⟨fun z => absurd z (by decide), fun z => by omega⟩
  · exact ⟨fun z => absurd z (by decide), fun z => by omega⟩
  · exact ⟨fun _ => by omega, fun _ => rfl⟩
  · exact ⟨fun z => absurd z (by decide), fun z => by omega⟩
  · exact ⟨fun z => absurd z (by decide), fun z => by omega⟩
  · exact ⟨fun z => absurd z (by decide), fun z => by omega⟩
  · exact ⟨fun _ => by omega, fun _ => rfl⟩
theorem sg3_m (O T : Int) : sg3 O * sg3 T ≤ 0 ↔ opS O T := by
  unfold opS
  rcases sg3_3 O with ⟨h, e⟩ | ⟨h, e⟩ | ⟨h, e⟩ <;> rcases sg3_3 T with ⟨h2, e2⟩ | ⟨h2, e2⟩ | ⟨h2, e2⟩ <;> rw [e, e2]
  · exact ⟨fun z => absurd z (by decide), fun z => by omega⟩
  · exact ⟨fun _ => by omega, fun _ => by decide⟩
  · exact ⟨fun _ => by omega, fun _ => by decide⟩
  · exact ⟨fun _ => by omega, fun _ => by decide⟩
  · exact ⟨fun z => absurd z (by decide), fun z => by omega⟩
  · exact ⟨fun _ => by omega, fun _ => by decide⟩
  · exact ⟨fun _ => by omega, fun _ => by decide⟩
  · exact ⟨fun _ => by omega, fun _ => by decide⟩
  · exact ⟨fun _ => by omega, fun _ => by decide⟩
theorem sg3_4 : ∀ a ∈ [(1 : Int32), -1, 0], ∀ b ∈ [(1 : Int32), -1, 0], ∀ c ∈ [(1 : Int32), -1, 0], ∀ d ∈ [(1 : Int32), -1, 0], (a + b + c + d = 4 ↔ a = 1 ∧ b = 1 ∧ c = 1 ∧ d = 1) ∧ (a + b + c + d = -4 ↔ a = -1 ∧ b = -1 ∧ c = -1 ∧ d = -1) := by decide +kernel
theorem sg3_in (O : Int) : sg3 O ∈ [(1 : Int32), -1, 0] := by
  rcases sg3_3 O with ⟨h, e⟩ | ⟨h, e⟩ | ⟨h, e⟩ <;> rw [e] <;> decide
theorem sg3_1 (O : Int) : (sg3 O = 1 ↔ 0 < O) ∧ (sg3 O = -1 ↔ O < 0) := by
  rcases sg3_3 O with ⟨h, e⟩ | ⟨h, e⟩ | ⟨h, e⟩ <;> rw [e]
  · exact ⟨⟨fun _ => h, fun _ => rfl⟩, ⟨fun z => absurd z (by decide), fun z => by omega⟩⟩
  · exact ⟨⟨fun z => absurd z (by decide), fun z => by omega⟩, ⟨fun _ => h, fun _ => rfl⟩⟩
  · exact ⟨⟨fun z => absurd z (by decide), fun z => by omega⟩, ⟨fun z => absurd z (by decide), fun z => by omega⟩⟩
theorem sd_Z {a b c d e f : Int} (ha : sB1 a) (hb : sB1 b) (hc : sB1 c) (hd : sB1 d) (he : sB1 e) (hf : sB1 f) : sdI (iZ a) (iZ b) (iZ c) (iZ d) (iZ e) (iZ f) = sg3 (tn a b c d e f) := by
  obtain ⟨h1, h2⟩ := tnB ha hb hc hd he hf
  unfold sdI cmpI sg3 tn
  rw [iZ_sub, iZ_sub, iZ_sub, iZ_sub, iZ_mul, iZ_mul]
  by_cases c1 : (c - a) * (f - b) < (d - b) * (e - a)
  · rw [if_pos ((iZ_lt (by omega) (by omega)).mpr c1), if_neg (by omega), if_pos (by omega)]
  · rw [if_neg (fun z => c1 ((iZ_lt (by omega) (by omega)).mp z))]
    by_cases c2 : (c - a) * (f - b) = (d - b) * (e - a)
    · rw [if_pos (by rw [c2]), if_neg (by omega), if_neg (by omega)]
    · rw [if_neg (fun z => c2 ((iZ_eq (by omega) (by omega)).mp z)), if_pos (by omega)]
theorem trn_Z {a b c d e f : Int} (ha : sB1 a) (hb : sB1 b) (hc : sB1 c) (hd : sB1 d) (he : sB1 e) (hf : sB1 f) : trn (iZ a) (iZ b) (iZ c) (iZ d) (iZ e) (iZ f) = sg3 (tn a b c d e f) := by
  obtain ⟨h1, h2⟩ := tnB ha hb hc hd he hf
  unfold trn sgI sg3
  rw [iZ_sub, iZ_sub, iZ_sub, iZ_sub, iZ_mul, iZ_mul, iZ_sub]
  have e1 : (0 < iZ ((c - a) * (f - b) - (d - b) * (e - a))) ↔ 0 < tn a b c d e f := by rw [← iZ_0]; exact iZ_lt (by omega) (by omega)
  have e2 : (iZ ((c - a) * (f - b) - (d - b) * (e - a)) < 0) ↔ tn a b c d e f < 0 := by rw [← iZ_0]; exact iZ_lt (by omega) (by omega)
  by_cases c1 : 0 < tn a b c d e f
  · rw [if_pos (e1.mpr c1), if_pos c1]
  · rw [if_neg (fun z => c1 (e1.mp z)), if_neg c1]
    by_cases c2 : tn a b c d e f < 0
    · rw [if_pos (e2.mpr c2), if_pos c2]
    · rw [if_neg (fun z => c2 (e2.mp z)), if_neg c2]
theorem sp_Z {a b c d : Int} (ha : sB1 a) (hb : sB1 b) (hc : sB1 c) (hd : sB1 d) : spI (iZ a) (iZ b) (iZ c) (iZ d) ↔ ovS a b c d := by
  unfold sB1 at *
  have mi : ∀ {x y : Int}, (-1000 ≤ x ∧ x ≤ 1000) → (-1000 ≤ y ∧ y ≤ 1000) → miI (iZ x) (iZ y) = iZ (min x y) := fun {x y} hx hy => by
    unfold miI
    by_cases c1 : y < x
    · rw [if_pos ((iZ_lt (by omega) (by omega)).mpr c1)]; congr 1; omega
    · rw [if_neg (fun z => c1 ((iZ_lt (by omega) (by omega)).mp z))]; congr 1; omega
  have ma : ∀ {x y : Int}, (-1000 ≤ x ∧ x ≤ 1000) → (-1000 ≤ y ∧ y ≤ 1000) → maI (iZ x) (iZ y) = iZ (max x y) := fun {x y} hx hy => by
    unfold maI
    by_cases c1 : x < y
    · rw [if_pos ((iZ_lt (by omega) (by omega)).mpr c1)]; congr 1; omega
    · rw [if_neg (fun z => c1 ((iZ_lt (by omega) (by omega)).mp z))]; congr 1; omega
  unfold spI ovS
  rw [mi ha hb, mi hc hd, ma ha hb, ma hc hd, iZ_le (by omega) (by omega), iZ_le (by omega) (by omega)]
theorem bt_Z {v a b : Int} (hv : sB1 v) (ha : sB1 a) (hb : sB1 b) : btw (iZ v) (iZ a) (iZ b) ↔ inX v a b := by
  unfold sB1 at *
  unfold btw inX
  rw [iZ_le (by omega) (by omega), iZ_le (by omega) (by omega), iZ_le (by omega) (by omega), iZ_le (by omega) (by omega)]
theorem me_Z {a b c d e f g i : Int} (ha : sB1 a) (hb : sB1 b) (hc : sB1 c) (hd : sB1 d) (he : sB1 e) (hf : sB1 f) (hg : sB1 g) (hi : sB1 i) : tMeN (iZ a) (iZ b) (iZ c) (iZ d) (iZ e) (iZ f) (iZ g) (iZ i) ↔ metZ a b c d e f g i := by
  unfold tMeN metZ
  rw [sp_Z ha hc he hg, sp_Z hb hd hf hi, sd_Z ha hb hc hd he hf, sd_Z ha hb hc hd hg hi, sd_Z he hf hg hi ha hb, sd_Z he hf hg hi hc hd, sg3_m, sg3_m]
theorem cr_Z {a b c d e f g i : Int} (ha : sB1 a) (hb : sB1 b) (hc : sB1 c) (hd : sB1 d) (he : sB1 e) (hf : sB1 f) (hg : sB1 g) (hi : sB1 i) : crs (iZ a) (iZ b) (iZ c) (iZ d) (iZ e) (iZ f) (iZ g) (iZ i) ↔ crsZ a b c d e f g i := by
  unfold crs crsT crsZ in2
  rw [trn_Z ha hb hc hd he hf, trn_Z ha hb hc hd hg hi, trn_Z he hf hg hi ha hb, trn_Z he hf hg hi hc hd, sg3_m, sg3_m, sg3_e, sg3_e, sg3_0, sg3_0, sg3_0, sg3_0, bt_Z he ha hc, bt_Z hf hb hd, bt_Z hg ha hc, bt_Z hi hb hd, bt_Z ha he hg, bt_Z hb hf hi, bt_Z hc he hg, bt_Z hd hf hi]
/-- the house's lines meet where the reference's cross -/
theorem me_cr {a b c d e f g i : Int} (ha : sB1 a) (hb : sB1 b) (hc : sB1 c) (hd : sB1 d) (he : sB1 e) (hf : sB1 f) (hg : sB1 g) (hi : sB1 i) : tMeN (iZ a) (iZ b) (iZ c) (iZ d) (iZ e) (iZ f) (iZ g) (iZ i) ↔ crs (iZ a) (iZ b) (iZ c) (iZ d) (iZ e) (iZ f) (iZ g) (iZ i) := by
  rw [me_Z ha hb hc hd he hf hg hi, cr_Z ha hb hc hd he hf hg hi]
  exact met_crs a b c d e f g i
theorem al_Z {a b c d e f : Int} (ha : sB1 a) (hb : sB1 b) (hc : sB1 c) (hd : sB1 d) (he : sB1 e) (hf : sB1 f) : tAlN (iZ a) (iZ b) (iZ e) (iZ f) (iZ c) (iZ d) (iZ e) (iZ f) ↔ alg (iZ a) (iZ b) (iZ c) (iZ d) (iZ e) (iZ f) := by
  unfold tAlN alg
  rw [sd_Z ha hb he hf hc hd, trn_Z he hf ha hb hc hd, sg3_0, sg3_0]
  have k : tn e f a b c d = - tn a b e f c d := by unfold tn; grind
  rw [k]
  constructor
  · rintro ⟨h1, h2⟩; exact ⟨by omega, h1⟩
  · rintro ⟨h1, h2⟩; exact ⟨h2, by omega⟩
theorem to_Z {a b c d x y w h : Int} (ha : sB1 a) (hb : sB1 b) (hc : sB1 c) (hd : sB1 d) (hx : sB1 x) (hy : sB1 y) (hxw : sB1 (x + w)) (hyh : sB1 (y + h)) : tToN (iZ a) (iZ b) (iZ c) (iZ d) (iZ x) (iZ y) (iZ w) (iZ h) ↔ touZ a b c d x y w h := by
  unfold tToN tSumN touZ allP allN
  rw [iZ_add, iZ_add, sd_Z ha hb hc hd hx hy, sd_Z ha hb hc hd hxw hy, sd_Z ha hb hc hd hx hyh, sd_Z ha hb hc hd hxw hyh, sp_Z ha hc hx hxw, sp_Z hb hd hy hyh]
  obtain ⟨q1, q2⟩ := sg3_4 _ (sg3_in (tn a b c d x y)) _ (sg3_in (tn a b c d (x + w) y)) _ (sg3_in (tn a b c d x (y + h))) _ (sg3_in (tn a b c d (x + w) (y + h)))
  rw [q1, q2]
  simp only [(sg3_1 _).1, (sg3_1 _).2]
theorem hi_Z {a b c d x y w h : Int} (ha : sB1 a) (hb : sB1 b) (hc : sB1 c) (hd : sB1 d) (hx : sB1 x) (hy : sB1 y) (hxw : sB1 (x + w)) (hyh : sB1 (y + h)) : hitM (iZ a) (iZ b) (iZ c) (iZ d) (iZ x) (iZ y) (iZ w) (iZ h) ↔ (rcZ a b x y w h ∨ rcZ c d x y w h) ∨ sidZ a b c d x y w h := by
  unfold hitM rcZ sidZ
  rw [iZ_add, iZ_add, bt_Z ha hx hxw, bt_Z hb hy hyh, bt_Z hc hx hxw, bt_Z hd hy hyh, cr_Z ha hb hc hd hx hy hxw hy, cr_Z ha hb hc hd hx hyh hxw hyh, cr_Z ha hb hc hd hx hy hx hyh, cr_Z ha hb hc hd hxw hy hxw hyh, ← met_crs, ← met_crs, ← met_crs, ← met_crs]
  simp only [or_assoc]
/-- a tail touches where the reference's line hits -/
theorem to_hi {a b c d x y w h : Int} (ha : sB1 a) (hb : sB1 b) (hc : sB1 c) (hd : sB1 d) (hx : sB1 x) (hy : sB1 y) (hxw : sB1 (x + w)) (hyh : sB1 (y + h)) (hw : 0 ≤ w) (hh : 0 ≤ h) : tToN (iZ a) (iZ b) (iZ c) (iZ d) (iZ x) (iZ y) (iZ w) (iZ h) ↔ hitM (iZ a) (iZ b) (iZ c) (iZ d) (iZ x) (iZ y) (iZ w) (iZ h) := by
  rw [to_Z ha hb hc hd hx hy hxw hyh, hi_Z ha hb hc hd hx hy hxw hyh]
  exact tou_hit hw hh
