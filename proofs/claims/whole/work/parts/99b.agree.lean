abbrev PU : Type := Nat → hp_T → (Option Value → hp_T → Prop) → (String → hp_T → Prop) → Prop
/-- the house and the reference do the same at a call -/
def AG (σ : sg_T) (cl : List (String × Int32)) (T8 T9 : PU) : Prop := ∃ (σ' : sg_T) (t x y : Int32), WF σ' ∧ (t = 0 → x = y) ∧ (∀ (c : Nat) (h : hp_T) (P : Option Value → hp_T → Prop) (X : String → hp_T → Prop), RC h c σ → (t = 0 → ∀ h', CE h c σ' h' → P (some (.int x)) h') → (∀ E, (E, t) ∈ cl → ∀ h', CE h c σ' h' → X E h') → T8 c h P X) ∧ ∀ (m : Nat) (h : hp_T) (P : Option Value → hp_T → Prop) (X : String → hp_T → Prop), RM h m σ → (∀ h', ME h m σ' t h' → P (some (.int y)) h') → T9 m h P X
def AGv (σ : sg_T) (cl : List (String × Int32)) (T8 T9 : PU) : Prop := ∃ (σ' : sg_T) (t : Int32), WF σ' ∧ (∀ (c : Nat) (h : hp_T) (P : Option Value → hp_T → Prop) (X : String → hp_T → Prop), RC h c σ → (t = 0 → ∀ h', CE h c σ' h' → P none h') → (∀ E, (E, t) ∈ cl → ∀ h', CE h c σ' h' → X E h') → T8 c h P X) ∧ ∀ (m : Nat) (h : hp_T) (P : Option Value → hp_T → Prop) (X : String → hp_T → Prop), RM h m σ → (∀ h', ME h m σ' t h' → P none h') → T9 m h P X
theorem ag_panel {σ : sg_T} (hW : WF σ) (v x y a b : Int32) : AG σ [("java/lang/IndexOutOfBoundsException", 1), ("java/lang/IllegalArgumentException", 2), ("java/lang/IllegalStateException", 3)] (fun c => T_X8_panel [.ref c, .int v, .int x, .int y, .int a, .int b]) (fun m => T_X9_panel [.ref m, .int v, .int x, .int y, .int a, .int b]) := by
  have h8 := hW.1.1.2
  by_cases c1 : pgM σ v
  · obtain ⟨p, hp, rfl⟩ := (pgM_iff hW).mp c1
    have ep : ∀ q, q < sN σ → nI p = nI q → q = p := fun q hq e => ((nI_eq (by omega) (by omega)).mp e).symm
    by_cases c2 : okP x y a b
    · by_cases c3 : canM σ p x y a b
      · refine ⟨pnS σ p x y a b, 0, nI (pN σ p), nI (pN σ p), WF_panel hW hp c2 c3.1.1, fun _ => rfl, fun c h P X hX hR0 hR1 => ⟨trivial, σ, ⟨hX, hW⟩, fun z => absurd c1 z,
            fun q hq e  z => by obtain rfl := ep q hq e; exact absurd c2 z,
            fun q hq e y2 z => by obtain rfl := ep q hq e; exact absurd c3 z,
            fun q hq e y2 y3 => by obtain rfl := ep q hq e; exact fun h' hE => hR0 rfl h' hE⟩, fun m h P X hM hP => ?_⟩
        obtain ⟨hm, eM⟩ := hM
        show T_X9_panel [.ref m, .int (nI p), .int x, .int y, .int a, .int b] h P X
        rw [tx_X9_panel, eM]
        exact ⟨⟨hm, hW⟩, fun z => absurd c1 z,
            fun q hq e  z => by obtain rfl := ep q hq e; exact absurd c2 z,
            fun q hq e y2 z => by obtain rfl := ep q hq e; exact absurd c3 z,
            fun q hq e y2 y3 => by obtain rfl := ep q hq e; exact fun h' hE => hP h' hE⟩
      · refine ⟨σ, 3, 0, 0, hW, fun _ => rfl, fun c h P X hX hR0 hR1 => ⟨trivial, σ, ⟨hX, hW⟩, fun z => absurd c1 z,
            fun q hq e  z => by obtain rfl := ep q hq e; exact absurd c2 z,
            fun q hq e y2 z => by obtain rfl := ep q hq e; exact fun h' hE => hR1 _ (by simp) h' hE,
            fun q hq e y2 y3 => by obtain rfl := ep q hq e; exact absurd y3 c3⟩, fun m h P X hM hP => ?_⟩
        obtain ⟨hm, eM⟩ := hM
        show T_X9_panel [.ref m, .int (nI p), .int x, .int y, .int a, .int b] h P X
        rw [tx_X9_panel, eM]
        exact ⟨⟨hm, hW⟩, fun z => absurd c1 z,
            fun q hq e  z => by obtain rfl := ep q hq e; exact absurd c2 z,
            fun q hq e y2 z => by obtain rfl := ep q hq e; exact fun h' hE => hP h' hE,
            fun q hq e y2 y3 => by obtain rfl := ep q hq e; exact absurd y3 c3⟩
    · refine ⟨σ, 2, 0, 0, hW, fun _ => rfl, fun c h P X hX hR0 hR1 => ⟨trivial, σ, ⟨hX, hW⟩, fun z => absurd c1 z,
          fun q hq e  z => by obtain rfl := ep q hq e; exact fun h' hE => hR1 _ (by simp) h' hE,
          fun q hq e y2 z => by obtain rfl := ep q hq e; exact absurd y2 c2,
          fun q hq e y2 y3 => by obtain rfl := ep q hq e; exact absurd y2 c2⟩, fun m h P X hM hP => ?_⟩
      obtain ⟨hm, eM⟩ := hM
      show T_X9_panel [.ref m, .int (nI p), .int x, .int y, .int a, .int b] h P X
      rw [tx_X9_panel, eM]
      exact ⟨⟨hm, hW⟩, fun z => absurd c1 z,
          fun q hq e  z => by obtain rfl := ep q hq e; exact fun h' hE => hP h' hE,
          fun q hq e y2 z => by obtain rfl := ep q hq e; exact absurd y2 c2,
          fun q hq e y2 y3 => by obtain rfl := ep q hq e; exact absurd y2 c2⟩
  · refine ⟨σ, 1, 0, 0, hW, fun _ => rfl, fun c h P X hX hR0 hR1 => ⟨trivial, σ, ⟨hX, hW⟩, fun _ h' hE => hR1 _ (by simp) h' hE,
        fun q hq e  z => absurd ((pgM_iff hW).mpr ⟨q, hq, e⟩) c1,
        fun q hq e y2 z => absurd ((pgM_iff hW).mpr ⟨q, hq, e⟩) c1,
        fun q hq e y2 y3 => absurd ((pgM_iff hW).mpr ⟨q, hq, e⟩) c1⟩, fun m h P X hM hP => ?_⟩
    obtain ⟨hm, eM⟩ := hM
    show T_X9_panel [.ref m, .int v, .int x, .int y, .int a, .int b] h P X
    rw [tx_X9_panel, eM]
    exact ⟨⟨hm, hW⟩, fun _ h' hE => hP h' hE,
        fun q hq e  z => absurd ((pgM_iff hW).mpr ⟨q, hq, e⟩) c1,
        fun q hq e y2 z => absurd ((pgM_iff hW).mpr ⟨q, hq, e⟩) c1,
        fun q hq e y2 y3 => absurd ((pgM_iff hW).mpr ⟨q, hq, e⟩) c1⟩
theorem ag_turn {σ : sg_T} (hW : WF σ) (v l : Int32) (hl : l &&& 1 = l) : AG σ [("java/lang/IndexOutOfBoundsException", 1), ("java/lang/IllegalStateException", 2)] (fun c => TC_X8_turn [.ref c, .int v, .int l]) (fun m => T_X9_turn [.ref m, .int v, .int l]) := by
  have h8 := hW.1.1.2
  by_cases c1 : pgM σ v
  · obtain ⟨p, hp, rfl⟩ := (pgM_iff hW).mp c1
    have ep : ∀ q, q < sN σ → nI p = nI q → q = p := fun q hq e => ((nI_eq (by omega) (by omega)).mp e).symm
    by_cases c2 : σ 5 p = -1
    · refine ⟨su σ 1 p l, 0, σ 1 p, σ 1 p, WF_turn hW hp hl, fun _ => rfl, fun c h P X hX hR0 hR1 => ⟨σ, ⟨hX, hW⟩, hl, fun z => absurd c1 z,
          fun q hq e  z => by obtain rfl := ep q hq e; exact absurd c2 z,
          fun q hq e y2 => by obtain rfl := ep q hq e; exact fun h' hE => hR0 rfl h' hE⟩, fun m h P X hM hP => ?_⟩
      obtain ⟨hm, eM⟩ := hM
      show T_X9_turn [.ref m, .int (nI p), .int l] h P X
      rw [tx_X9_turn, eM]
      exact ⟨⟨⟨hm, hW⟩, hl⟩, fun z => absurd c1 z,
          fun q hq e  z => by obtain rfl := ep q hq e; exact absurd c2 z,
          fun q hq e y2 => by obtain rfl := ep q hq e; exact fun h' hE => hP h' hE⟩
    · refine ⟨σ, 2, 0, 0, hW, fun _ => rfl, fun c h P X hX hR0 hR1 => ⟨σ, ⟨hX, hW⟩, hl, fun z => absurd c1 z,
          fun q hq e  z => by obtain rfl := ep q hq e; exact fun h' hE => hR1 _ (by simp) h' hE,
          fun q hq e y2 => by obtain rfl := ep q hq e; exact absurd y2 c2⟩, fun m h P X hM hP => ?_⟩
      obtain ⟨hm, eM⟩ := hM
      show T_X9_turn [.ref m, .int (nI p), .int l] h P X
      rw [tx_X9_turn, eM]
      exact ⟨⟨⟨hm, hW⟩, hl⟩, fun z => absurd c1 z,
          fun q hq e  z => by obtain rfl := ep q hq e; exact fun h' hE => hP h' hE,
          fun q hq e y2 => by obtain rfl := ep q hq e; exact absurd y2 c2⟩
  · refine ⟨σ, 1, 0, 0, hW, fun _ => rfl, fun c h P X hX hR0 hR1 => ⟨σ, ⟨hX, hW⟩, hl, fun _ h' hE => hR1 _ (by simp) h' hE,
        fun q hq e  z => absurd ((pgM_iff hW).mpr ⟨q, hq, e⟩) c1,
        fun q hq e y2 => absurd ((pgM_iff hW).mpr ⟨q, hq, e⟩) c1⟩, fun m h P X hM hP => ?_⟩
    obtain ⟨hm, eM⟩ := hM
    show T_X9_turn [.ref m, .int v, .int l] h P X
    rw [tx_X9_turn, eM]
    exact ⟨⟨⟨hm, hW⟩, hl⟩, fun _ h' hE => hP h' hE,
        fun q hq e  z => absurd ((pgM_iff hW).mpr ⟨q, hq, e⟩) c1,
        fun q hq e y2 => absurd ((pgM_iff hW).mpr ⟨q, hq, e⟩) c1⟩
theorem ag_read {σ : sg_T} (hW : WF σ) (v l x : Int32) (hl : l &&& 1 = l) : AG σ [("java/lang/IndexOutOfBoundsException", 1)] (fun c => TC_X8_read [.ref c, .int v, .int l, .int x]) (fun m => T_X9_read [.ref m, .int v, .int l, .int x]) := by
  have h8 := hW.1.1.2
  by_cases c1 : pgM σ v
  · obtain ⟨p, hp, rfl⟩ := (pgM_iff hW).mp c1
    have ep : ∀ q, q < sN σ → nI p = nI q → q = p := fun q hq e => ((nI_eq (by omega) (by omega)).mp e).symm
    by_cases c2 : 0 ≤ x ∧ x ≤ nI (rdS σ p l).1.length - 1
    · refine ⟨σ, 0, ordI (rdS σ p l).1 x.toNatClampNeg, ordI (rdS σ p l).1 x.toNatClampNeg, hW, fun _ => rfl, fun c h P X hX hR0 hR1 => ⟨σ, ⟨hX, hW⟩, hl, fun z => absurd c1 z,
          fun q hq e y2 => by obtain rfl := ep q hq e; exact fun h' hE => hR0 rfl h' hE,
          fun q hq e  z => by obtain rfl := ep q hq e; exact absurd c2 z⟩, fun m h P X hM hP => ?_⟩
      obtain ⟨hm, eM⟩ := hM
      show T_X9_read [.ref m, .int (nI p), .int l, .int x] h P X
      rw [tx_X9_read, eM]
      exact ⟨⟨hm, hW⟩, fun z => absurd c1 z,
          fun q hq e y2 => by obtain rfl := ep q hq e; exact fun h' hE => hP h' hE,
          fun q hq e  z => by obtain rfl := ep q hq e; exact absurd c2 z⟩
    · refine ⟨σ, 1, 0, 0, hW, fun _ => rfl, fun c h P X hX hR0 hR1 => ⟨σ, ⟨hX, hW⟩, hl, fun z => absurd c1 z,
          fun q hq e y2 => by obtain rfl := ep q hq e; exact absurd y2 c2,
          fun q hq e  z => by obtain rfl := ep q hq e; exact fun h' hE => hR1 _ (by simp) h' hE⟩, fun m h P X hM hP => ?_⟩
      obtain ⟨hm, eM⟩ := hM
      show T_X9_read [.ref m, .int (nI p), .int l, .int x] h P X
      rw [tx_X9_read, eM]
      exact ⟨⟨hm, hW⟩, fun z => absurd c1 z,
          fun q hq e y2 => by obtain rfl := ep q hq e; exact absurd y2 c2,
          fun q hq e  z => by obtain rfl := ep q hq e; exact fun h' hE => hP h' hE⟩
  · refine ⟨σ, 1, 0, 0, hW, fun _ => rfl, fun c h P X hX hR0 hR1 => ⟨σ, ⟨hX, hW⟩, hl, fun _ h' hE => hR1 _ (by simp) h' hE,
        fun q hq e y2 => absurd ((pgM_iff hW).mpr ⟨q, hq, e⟩) c1,
        fun q hq e  z => absurd ((pgM_iff hW).mpr ⟨q, hq, e⟩) c1⟩, fun m h P X hM hP => ?_⟩
    obtain ⟨hm, eM⟩ := hM
    show T_X9_read [.ref m, .int v, .int l, .int x] h P X
    rw [tx_X9_read, eM]
    exact ⟨⟨hm, hW⟩, fun _ h' hE => hP h' hE,
        fun q hq e y2 => absurd ((pgM_iff hW).mpr ⟨q, hq, e⟩) c1,
        fun q hq e  z => absurd ((pgM_iff hW).mpr ⟨q, hq, e⟩) c1⟩
theorem ag_doubts {σ : sg_T} (hW : WF σ) (v : Int32) : AG σ [("java/lang/IndexOutOfBoundsException", 1)] (fun c => TC_X8_doubts [.ref c, .int v]) (fun m => T_X9_doubts [.ref m, .int v]) := by
  have h8 := hW.1.1.2
  by_cases c1 : pgM σ v
  · obtain ⟨p, hp, rfl⟩ := (pgM_iff hW).mp c1
    have ep : ∀ q, q < sN σ → nI p = nI q → q = p := fun q hq e => ((nI_eq (by omega) (by omega)).mp e).symm
    refine ⟨σ, 0, (rdS σ p (σ 1 p)).2, (rdS σ p (σ 1 p)).2, hW, fun _ => rfl, fun c h P X hX hR0 hR1 => ⟨σ, ⟨hX, hW⟩, fun z => absurd c1 z,
        fun q hq e  => by obtain rfl := ep q hq e; exact fun h' hE => hR0 rfl h' hE⟩, fun m h P X hM hP => ?_⟩
    obtain ⟨hm, eM⟩ := hM
    show T_X9_doubts [.ref m, .int (nI p)] h P X
    rw [tx_X9_doubts, eM]
    exact ⟨⟨hm, hW⟩, fun z => absurd c1 z,
        fun q hq e  => by obtain rfl := ep q hq e; exact fun h' hE => hP h' hE⟩
  · refine ⟨σ, 1, 0, 0, hW, fun _ => rfl, fun c h P X hX hR0 hR1 => ⟨σ, ⟨hX, hW⟩, fun _ h' hE => hR1 _ (by simp) h' hE,
        fun q hq e  => absurd ((pgM_iff hW).mpr ⟨q, hq, e⟩) c1⟩, fun m h P X hM hP => ?_⟩
    obtain ⟨hm, eM⟩ := hM
    show T_X9_doubts [.ref m, .int v] h P X
    rw [tx_X9_doubts, eM]
    exact ⟨⟨hm, hW⟩, fun _ h' hE => hP h' hE,
        fun q hq e  => absurd ((pgM_iff hW).mpr ⟨q, hq, e⟩) c1⟩
theorem ag_orders {σ : sg_T} (hW : WF σ) (v l : Int32) : AG σ [("java/lang/IndexOutOfBoundsException", 1)] (fun c => T_X8_orders [.ref c, .int v, .int l]) (fun m => T_X9_orders [.ref m, .int v, .int l]) := by
  have h8 := hW.1.1.2
  by_cases c1 : pgM σ v
  · obtain ⟨p, hp, rfl⟩ := (pgM_iff hW).mp c1
    have ep : ∀ q, q < sN σ → nI p = nI q → q = p := fun q hq e => ((nI_eq (by omega) (by omega)).mp e).symm
    refine ⟨σ, 0, wyS (pN σ p) (fun i j => ahM σ p i j l) (2 ^ pN σ p - 1), wyS (pN σ p) (fun i j => ahM σ p i j l) (2 ^ pN σ p - 1), hW, fun _ => rfl, fun c h P X hX hR0 hR1 => ⟨trivial, σ, ⟨hX, hW⟩, fun z => absurd c1 z,
        fun q hq e  => by obtain rfl := ep q hq e; exact fun h' hE => hR0 rfl h' hE⟩, fun m h P X hM hP => ?_⟩
    obtain ⟨hm, eM⟩ := hM
    show T_X9_orders [.ref m, .int (nI p), .int l] h P X
    rw [tx_X9_orders, eM]
    exact ⟨⟨hm, hW⟩, fun z => absurd c1 z,
        fun q hq e  => by obtain rfl := ep q hq e; exact fun h' hE => hP h' hE⟩
  · refine ⟨σ, 1, 0, 0, hW, fun _ => rfl, fun c h P X hX hR0 hR1 => ⟨trivial, σ, ⟨hX, hW⟩, fun _ h' hE => hR1 _ (by simp) h' hE,
        fun q hq e  => absurd ((pgM_iff hW).mpr ⟨q, hq, e⟩) c1⟩, fun m h P X hM hP => ?_⟩
    obtain ⟨hm, eM⟩ := hM
    show T_X9_orders [.ref m, .int v, .int l] h P X
    rw [tx_X9_orders, eM]
    exact ⟨⟨hm, hW⟩, fun _ h' hE => hP h' hE,
        fun q hq e  => absurd ((pgM_iff hW).mpr ⟨q, hq, e⟩) c1⟩
theorem ag_isOne {σ : sg_T} (hW : WF σ) (v l : Int32) (hl : l &&& 1 = l) : AG σ [("java/lang/IndexOutOfBoundsException", 1)] (fun c => TC_X8_isOne [.ref c, .int v, .int l]) (fun m => T_X9_isOne [.ref m, .int v, .int l]) := by
  have h8 := hW.1.1.2
  by_cases c1 : pgM σ v
  · obtain ⟨p, hp, rfl⟩ := (pgM_iff hW).mp c1
    have ep : ∀ q, q < sN σ → nI p = nI q → q = p := fun q hq e => ((nI_eq (by omega) (by omega)).mp e).symm
    refine ⟨σ, 0, bI (oneM σ p l), bI (oneM σ p l), hW, fun _ => rfl, fun c h P X hX hR0 hR1 => ⟨σ, ⟨hX, hW⟩, hl, fun z => absurd c1 z,
        fun q hq e  => by obtain rfl := ep q hq e; exact fun h' hE => hR0 rfl h' hE⟩, fun m h P X hM hP => ?_⟩
    obtain ⟨hm, eM⟩ := hM
    show T_X9_isOne [.ref m, .int (nI p), .int l] h P X
    rw [tx_X9_isOne, eM]
    exact ⟨⟨hm, hW⟩, fun z => absurd c1 z,
        fun q hq e  => by obtain rfl := ep q hq e; exact fun h' hE => hP h' hE⟩
  · refine ⟨σ, 1, 0, 0, hW, fun _ => rfl, fun c h P X hX hR0 hR1 => ⟨σ, ⟨hX, hW⟩, hl, fun _ h' hE => hR1 _ (by simp) h' hE,
        fun q hq e  => absurd ((pgM_iff hW).mpr ⟨q, hq, e⟩) c1⟩, fun m h P X hM hP => ?_⟩
    obtain ⟨hm, eM⟩ := hM
    show T_X9_isOne [.ref m, .int v, .int l] h P X
    rw [tx_X9_isOne, eM]
    exact ⟨⟨hm, hW⟩, fun _ h' hE => hP h' hE,
        fun q hq e  => absurd ((pgM_iff hW).mpr ⟨q, hq, e⟩) c1⟩
theorem ag_mirror {σ : sg_T} (hW : WF σ) (v : Int32) : AG σ [("java/lang/IndexOutOfBoundsException", 1), ("java/lang/IllegalStateException", 2)] (fun c => T_X8_mirror [.ref c, .int v]) (fun m => T_X9_mirror [.ref m, .int v]) := by
  have h8 := hW.1.1.2
  by_cases c1 : pgM σ v
  · obtain ⟨p, hp, rfl⟩ := (pgM_iff hW).mp c1
    have ep : ∀ q, q < sN σ → nI p = nI q → q = p := fun q hq e => ((nI_eq (by omega) (by omega)).mp e).symm
    by_cases c2 : sN σ < 8
    · refine ⟨mrS σ p, 0, nI (sN σ), nI (sN σ), WF_mirror hW c2 hp, fun _ => rfl, fun c h P X hX hR0 hR1 => ⟨trivial, σ, ⟨hX, hW⟩, fun z => absurd c1 z,
          fun q hq e  z => by obtain rfl := ep q hq e; exact absurd c2 z,
          fun q hq e y2 => by obtain rfl := ep q hq e; exact fun h' hE => hR0 rfl h' hE⟩, fun m h P X hM hP => ?_⟩
      obtain ⟨hm, eM⟩ := hM
      show T_X9_mirror [.ref m, .int (nI p)] h P X
      rw [tx_X9_mirror, eM]
      exact ⟨⟨hm, hW⟩, fun z => absurd c1 z,
          fun q hq e  z => by obtain rfl := ep q hq e; exact absurd c2 z,
          fun q hq e y2 => by obtain rfl := ep q hq e; exact fun h' hE => hP h' hE⟩
    · refine ⟨σ, 2, 0, 0, hW, fun _ => rfl, fun c h P X hX hR0 hR1 => ⟨trivial, σ, ⟨hX, hW⟩, fun z => absurd c1 z,
          fun q hq e  z => by obtain rfl := ep q hq e; exact fun h' hE => hR1 _ (by simp) h' hE,
          fun q hq e y2 => by obtain rfl := ep q hq e; exact absurd y2 c2⟩, fun m h P X hM hP => ?_⟩
      obtain ⟨hm, eM⟩ := hM
      show T_X9_mirror [.ref m, .int (nI p)] h P X
      rw [tx_X9_mirror, eM]
      exact ⟨⟨hm, hW⟩, fun z => absurd c1 z,
          fun q hq e  z => by obtain rfl := ep q hq e; exact fun h' hE => hP h' hE,
          fun q hq e y2 => by obtain rfl := ep q hq e; exact absurd y2 c2⟩
  · refine ⟨σ, 1, 0, 0, hW, fun _ => rfl, fun c h P X hX hR0 hR1 => ⟨trivial, σ, ⟨hX, hW⟩, fun _ h' hE => hR1 _ (by simp) h' hE,
        fun q hq e  z => absurd ((pgM_iff hW).mpr ⟨q, hq, e⟩) c1,
        fun q hq e y2 => absurd ((pgM_iff hW).mpr ⟨q, hq, e⟩) c1⟩, fun m h P X hM hP => ?_⟩
    obtain ⟨hm, eM⟩ := hM
    show T_X9_mirror [.ref m, .int v] h P X
    rw [tx_X9_mirror, eM]
    exact ⟨⟨hm, hW⟩, fun _ h' hE => hP h' hE,
        fun q hq e  z => absurd ((pgM_iff hW).mpr ⟨q, hq, e⟩) c1,
        fun q hq e y2 => absurd ((pgM_iff hW).mpr ⟨q, hq, e⟩) c1⟩
theorem ag_stage {σ : sg_T} (hW : WF σ) (v : Int32) : AG σ [("java/lang/IndexOutOfBoundsException", 1)] (fun c => TC_X8_stage [.ref c, .int v]) (fun m => T_X9_stage [.ref m, .int v]) := by
  have h8 := hW.1.1.2
  by_cases c1 : pgM σ v
  · obtain ⟨p, hp, rfl⟩ := (pgM_iff hW).mp c1
    have ep : ∀ q, q < sN σ → nI p = nI q → q = p := fun q hq e => ((nI_eq (by omega) (by omega)).mp e).symm
    refine ⟨σ, 0, σ 4 p, σ 4 p, hW, fun _ => rfl, fun c h P X hX hR0 hR1 => ⟨σ, ⟨hX, hW⟩, fun z => absurd c1 z,
        fun q hq e  => by obtain rfl := ep q hq e; exact hR0 rfl h (CE.rfl hX)⟩, fun m h P X hM hP => ?_⟩
    obtain ⟨hm, eM⟩ := hM
    show T_X9_stage [.ref m, .int (nI p)] h P X
    rw [tx_X9_stage, eM]
    exact ⟨⟨hm, hW⟩, fun z => absurd c1 z,
        fun q hq e  => by obtain rfl := ep q hq e; exact fun h' hE => hP h' hE⟩
  · refine ⟨σ, 1, 0, 0, hW, fun _ => rfl, fun c h P X hX hR0 hR1 => ⟨σ, ⟨hX, hW⟩, fun _ h' hE => hR1 _ (by simp) h' hE,
        fun q hq e  => absurd ((pgM_iff hW).mpr ⟨q, hq, e⟩) c1⟩, fun m h P X hM hP => ?_⟩
    obtain ⟨hm, eM⟩ := hM
    show T_X9_stage [.ref m, .int v] h P X
    rw [tx_X9_stage, eM]
    exact ⟨⟨hm, hW⟩, fun _ h' hE => hP h' hE,
        fun q hq e  => absurd ((pgM_iff hW).mpr ⟨q, hq, e⟩) c1⟩
theorem ag_press {σ : sg_T} (hW : WF σ) (v : Int32) : AG σ [("java/lang/IndexOutOfBoundsException", 1), ("java/lang/IllegalStateException", 2)] (fun c => T_X8_press [.ref c, .int v]) (fun m => T_X9_press [.ref m, .int v]) := by
  have h8 := hW.1.1.2
  by_cases c1 : pgM σ v
  · obtain ⟨p, hp, rfl⟩ := (pgM_iff hW).mp c1
    have ep : ∀ q, q < sN σ → nI p = nI q → q = p := fun q hq e => ((nI_eq (by omega) (by omega)).mp e).symm
    by_cases c2 : 4 ≤ σ 4 p ∧ σ 5 p = -1
    · refine ⟨prW σ p, 0, σ 2 p, σ 2 p, WF_press hW hp, fun _ => rfl, fun c h P X hX hR0 hR1 => ⟨trivial, σ, ⟨hX, hW⟩, fun z => absurd c1 z,
          fun q hq e  z => by obtain rfl := ep q hq e; exact absurd c2 z,
          fun q hq e y2 => by obtain rfl := ep q hq e; exact fun h' hE => hR0 rfl h' hE⟩, fun m h P X hM hP => ?_⟩
      obtain ⟨hm, eM⟩ := hM
      show T_X9_press [.ref m, .int (nI p)] h P X
      rw [tx_X9_press, eM]
      exact ⟨⟨hm, hW⟩, fun z => absurd c1 z,
          fun q hq e  z => by obtain rfl := ep q hq e; exact absurd c2 z,
          fun q hq e y2 => by obtain rfl := ep q hq e; exact fun h' hE => hP h' hE⟩
    · refine ⟨σ, 2, 0, 0, hW, fun _ => rfl, fun c h P X hX hR0 hR1 => ⟨trivial, σ, ⟨hX, hW⟩, fun z => absurd c1 z,
          fun q hq e  z => by obtain rfl := ep q hq e; exact fun h' hE => hR1 _ (by simp) h' hE,
          fun q hq e y2 => by obtain rfl := ep q hq e; exact absurd y2 c2⟩, fun m h P X hM hP => ?_⟩
      obtain ⟨hm, eM⟩ := hM
      show T_X9_press [.ref m, .int (nI p)] h P X
      rw [tx_X9_press, eM]
      exact ⟨⟨hm, hW⟩, fun z => absurd c1 z,
          fun q hq e  z => by obtain rfl := ep q hq e; exact fun h' hE => hP h' hE,
          fun q hq e y2 => by obtain rfl := ep q hq e; exact absurd y2 c2⟩
  · refine ⟨σ, 1, 0, 0, hW, fun _ => rfl, fun c h P X hX hR0 hR1 => ⟨trivial, σ, ⟨hX, hW⟩, fun _ h' hE => hR1 _ (by simp) h' hE,
        fun q hq e  z => absurd ((pgM_iff hW).mpr ⟨q, hq, e⟩) c1,
        fun q hq e y2 => absurd ((pgM_iff hW).mpr ⟨q, hq, e⟩) c1⟩, fun m h P X hM hP => ?_⟩
    obtain ⟨hm, eM⟩ := hM
    show T_X9_press [.ref m, .int v] h P X
    rw [tx_X9_press, eM]
    exact ⟨⟨hm, hW⟩, fun _ h' hE => hP h' hE,
        fun q hq e  z => absurd ((pgM_iff hW).mpr ⟨q, hq, e⟩) c1,
        fun q hq e y2 => absurd ((pgM_iff hW).mpr ⟨q, hq, e⟩) c1⟩
theorem ag_faults {σ : sg_T} (hW : WF σ) (v w : Int32) : AG σ [("java/lang/IndexOutOfBoundsException", 1)] (fun c => T_X8_faults [.ref c, .int v, .int w]) (fun m => T_X9_faults [.ref m, .int v, .int w]) := by
  have h8 := hW.1.1.2
  by_cases c1 : blM σ v w
  · obtain ⟨p, k, hp, hk, rfl, rfl⟩ := (blM_iff hW).mp c1
    have ep : ∀ q, q < sN σ → nI p = nI q → q = p := fun q hq e => ((nI_eq (by omega) (by omega)).mp e).symm
    have w20 := (hW.2.1 p (by omega)).2.1.2
    have en : ∀ n, n < bN σ p → nI k = nI n → n = k := fun n hn e => ((nI_eq (by omega) (by omega)).mp e).symm
    refine ⟨σ, 0, ftM σ p k, ftM σ p k, hW, fun _ => rfl, fun c h P X hX hR0 hR1 => ⟨trivial, σ, ⟨hX, hW⟩, fun z => absurd c1 z,
        fun q n hq hn e e2  => by obtain rfl := ep q hq e; obtain rfl := en n hn e2; exact fun h' hE => hR0 rfl h' hE⟩, fun m h P X hM hP => ?_⟩
    obtain ⟨hm, eM⟩ := hM
    show T_X9_faults [.ref m, .int (nI p), .int (nI k)] h P X
    rw [tx_X9_faults, eM]
    exact ⟨⟨hm, hW⟩, fun z => absurd c1 z,
        fun q n hq hn e e2  => by obtain rfl := ep q hq e; obtain rfl := en n hn e2; exact fun h' hE => hP h' hE⟩
  · refine ⟨σ, 1, 0, 0, hW, fun _ => rfl, fun c h P X hX hR0 hR1 => ⟨trivial, σ, ⟨hX, hW⟩, fun _ h' hE => hR1 _ (by simp) h' hE,
        fun q n hq hn e e2  => absurd ((blM_iff hW).mpr ⟨q, n, hq, hn, e, e2⟩) c1⟩, fun m h P X hM hP => ?_⟩
    obtain ⟨hm, eM⟩ := hM
    show T_X9_faults [.ref m, .int v, .int w] h P X
    rw [tx_X9_faults, eM]
    exact ⟨⟨hm, hW⟩, fun _ h' hE => hP h' hE,
        fun q n hq hn e e2  => absurd ((blM_iff hW).mpr ⟨q, n, hq, hn, e, e2⟩) c1⟩
theorem ag_move {σ : sg_T} (hW : WF σ) (v w x y : Int32) : AGv σ [("java/lang/IndexOutOfBoundsException", 1), ("java/lang/IllegalArgumentException", 2), ("java/lang/IllegalStateException", 3)] (fun c => T_X8_move [.ref c, .int v, .int w, .int x, .int y]) (fun m => T_X9_move [.ref m, .int v, .int w, .int x, .int y]) := by
  have h8 := hW.1.1.2
  by_cases c1 : blM σ v w
  · obtain ⟨p, k, hp, hk, rfl, rfl⟩ := (blM_iff hW).mp c1
    have ep : ∀ q, q < sN σ → nI p = nI q → q = p := fun q hq e => ((nI_eq (by omega) (by omega)).mp e).symm
    have w20 := (hW.2.1 p (by omega)).2.1.2
    have en : ∀ n, n < bN σ p → nI k = nI n → n = k := fun n hn e => ((nI_eq (by omega) (by omega)).mp e).symm
    by_cases c2 : (0 ≤ x ∧ x ≤ 59) ∧ 0 ≤ y ∧ y ≤ 79
    · by_cases c3 : σ 5 p = -1
      · refine ⟨mvS σ (20 * p + k) x y, 0, WF_move hW hp hk c2, fun c h P X hX hR0 hR1 => ⟨trivial, σ, ⟨hX, hW⟩, fun z => absurd c1 z,
            fun q n hq hn e e2  z => by obtain rfl := ep q hq e; obtain rfl := en n hn e2; exact absurd c2 z,
            fun q n hq hn e e2 y2 z => by obtain rfl := ep q hq e; obtain rfl := en n hn e2; exact absurd c3 z,
            fun q n hq hn e e2 y2 y3 => by obtain rfl := ep q hq e; obtain rfl := en n hn e2; exact fun h' hE => hR0 rfl h' hE⟩, fun m h P X hM hP => ?_⟩
        obtain ⟨hm, eM⟩ := hM
        show T_X9_move [.ref m, .int (nI p), .int (nI k), .int x, .int y] h P X
        rw [tx_X9_move, eM]
        exact ⟨⟨hm, hW⟩, fun z => absurd c1 z,
            fun q n hq hn e e2  z => by obtain rfl := ep q hq e; obtain rfl := en n hn e2; exact absurd c2 z,
            fun q n hq hn e e2 y2 z => by obtain rfl := ep q hq e; obtain rfl := en n hn e2; exact absurd c3 z,
            fun q n hq hn e e2 y2 y3 => by obtain rfl := ep q hq e; obtain rfl := en n hn e2; exact fun h' hE => hP h' hE⟩
      · refine ⟨σ, 3, hW, fun c h P X hX hR0 hR1 => ⟨trivial, σ, ⟨hX, hW⟩, fun z => absurd c1 z,
            fun q n hq hn e e2  z => by obtain rfl := ep q hq e; obtain rfl := en n hn e2; exact absurd c2 z,
            fun q n hq hn e e2 y2 z => by obtain rfl := ep q hq e; obtain rfl := en n hn e2; exact fun h' hE => hR1 _ (by simp) h' hE,
            fun q n hq hn e e2 y2 y3 => by obtain rfl := ep q hq e; obtain rfl := en n hn e2; exact absurd y3 c3⟩, fun m h P X hM hP => ?_⟩
        obtain ⟨hm, eM⟩ := hM
        show T_X9_move [.ref m, .int (nI p), .int (nI k), .int x, .int y] h P X
        rw [tx_X9_move, eM]
        exact ⟨⟨hm, hW⟩, fun z => absurd c1 z,
            fun q n hq hn e e2  z => by obtain rfl := ep q hq e; obtain rfl := en n hn e2; exact absurd c2 z,
            fun q n hq hn e e2 y2 z => by obtain rfl := ep q hq e; obtain rfl := en n hn e2; exact fun h' hE => hP h' hE,
            fun q n hq hn e e2 y2 y3 => by obtain rfl := ep q hq e; obtain rfl := en n hn e2; exact absurd y3 c3⟩
    · refine ⟨σ, 2, hW, fun c h P X hX hR0 hR1 => ⟨trivial, σ, ⟨hX, hW⟩, fun z => absurd c1 z,
          fun q n hq hn e e2  z => by obtain rfl := ep q hq e; obtain rfl := en n hn e2; exact fun h' hE => hR1 _ (by simp) h' hE,
          fun q n hq hn e e2 y2 z => by obtain rfl := ep q hq e; obtain rfl := en n hn e2; exact absurd y2 c2,
          fun q n hq hn e e2 y2 y3 => by obtain rfl := ep q hq e; obtain rfl := en n hn e2; exact absurd y2 c2⟩, fun m h P X hM hP => ?_⟩
      obtain ⟨hm, eM⟩ := hM
      show T_X9_move [.ref m, .int (nI p), .int (nI k), .int x, .int y] h P X
      rw [tx_X9_move, eM]
      exact ⟨⟨hm, hW⟩, fun z => absurd c1 z,
          fun q n hq hn e e2  z => by obtain rfl := ep q hq e; obtain rfl := en n hn e2; exact fun h' hE => hP h' hE,
          fun q n hq hn e e2 y2 z => by obtain rfl := ep q hq e; obtain rfl := en n hn e2; exact absurd y2 c2,
          fun q n hq hn e e2 y2 y3 => by obtain rfl := ep q hq e; obtain rfl := en n hn e2; exact absurd y2 c2⟩
  · refine ⟨σ, 1, hW, fun c h P X hX hR0 hR1 => ⟨trivial, σ, ⟨hX, hW⟩, fun _ h' hE => hR1 _ (by simp) h' hE,
        fun q n hq hn e e2  z => absurd ((blM_iff hW).mpr ⟨q, n, hq, hn, e, e2⟩) c1,
        fun q n hq hn e e2 y2 z => absurd ((blM_iff hW).mpr ⟨q, n, hq, hn, e, e2⟩) c1,
        fun q n hq hn e e2 y2 y3 => absurd ((blM_iff hW).mpr ⟨q, n, hq, hn, e, e2⟩) c1⟩, fun m h P X hM hP => ?_⟩
    obtain ⟨hm, eM⟩ := hM
    show T_X9_move [.ref m, .int v, .int w, .int x, .int y] h P X
    rw [tx_X9_move, eM]
    exact ⟨⟨hm, hW⟩, fun _ h' hE => hP h' hE,
        fun q n hq hn e e2  z => absurd ((blM_iff hW).mpr ⟨q, n, hq, hn, e, e2⟩) c1,
        fun q n hq hn e e2 y2 z => absurd ((blM_iff hW).mpr ⟨q, n, hq, hn, e, e2⟩) c1,
        fun q n hq hn e e2 y2 y3 => absurd ((blM_iff hW).mpr ⟨q, n, hq, hn, e, e2⟩) c1⟩
theorem ag_draw {σ : sg_T} (hW : WF σ) (v w f x y s e ch : Int32) (hch : ch &&& 1 = ch) : AGv σ [("java/lang/IndexOutOfBoundsException", 1), ("java/lang/IllegalArgumentException", 2), ("java/lang/IllegalStateException", 3)] (fun c => T_X8_draw [.ref c, .int v, .int w, .int f, .int x, .int y, .int s, .int e, .int ch]) (fun m => T_X9_draw [.ref m, .int v, .int w, .int f, .int x, .int y, .int s, .int e, .int ch]) := by
  have h8 := hW.1.1.2
  by_cases c1 : pnM σ v w ∧ fgM σ f
  · obtain ⟨p, k, hp, hk, rfl, rfl⟩ := (pnM_iff hW).mp c1.1
    obtain ⟨i, hi, rfl⟩ := (fgM_iff hW).mp c1.2
    have ep : ∀ q, q < sN σ → nI p = nI q → q = p := fun q hq e => ((nI_eq (by omega) (by omega)).mp e).symm
    have w8 := (hW.2.1 p (by omega)).1.2
    have en : ∀ n, n < pN σ p → nI k = nI n → n = k := fun n hn e => ((nI_eq (by omega) (by omega)).mp e).symm
    have f12 := hW.1.2.1.2
    have eg : ∀ g, g < sF σ → nI i = nI g → g = i := fun g hg e => ((nI_eq (by omega) (by omega)).mp e).symm
    by_cases c2 : dwO σ (8 * p + k) x y s e
    · by_cases c3 : σ 5 p = -1
      · refine ⟨dwS σ (12 * (8 * p + k) + i) x y s e ch, 0, WF_draw hW hp hk hi c2 hch, fun c h P X hX hR0 hR1 => ⟨trivial, σ, ⟨hX, hW⟩, hch, fun z => absurd c1 z,
            fun q n g hq hn hg e e2 e3  z => by obtain rfl := ep q hq e; obtain rfl := en n hn e2; obtain rfl := eg g hg e3; exact absurd c2 z,
            fun q n g hq hn hg e e2 e3 y2 z => by obtain rfl := ep q hq e; obtain rfl := en n hn e2; obtain rfl := eg g hg e3; exact absurd c3 z,
            fun q n g hq hn hg e e2 e3 y2 y3 => by obtain rfl := ep q hq e; obtain rfl := en n hn e2; obtain rfl := eg g hg e3; exact fun h' hE => hR0 rfl h' hE⟩, fun m h P X hM hP => ?_⟩
        obtain ⟨hm, eM⟩ := hM
        show T_X9_draw [.ref m, .int (nI p), .int (nI k), .int (nI i), .int x, .int y, .int s, .int e, .int ch] h P X
        rw [tx_X9_draw, eM]
        exact ⟨⟨⟨hm, hW⟩, hch⟩, fun z => absurd c1 z,
            fun q n g hq hn hg e e2 e3  z => by obtain rfl := ep q hq e; obtain rfl := en n hn e2; obtain rfl := eg g hg e3; exact absurd c2 z,
            fun q n g hq hn hg e e2 e3 y2 z => by obtain rfl := ep q hq e; obtain rfl := en n hn e2; obtain rfl := eg g hg e3; exact absurd c3 z,
            fun q n g hq hn hg e e2 e3 y2 y3 => by obtain rfl := ep q hq e; obtain rfl := en n hn e2; obtain rfl := eg g hg e3; exact fun h' hE => hP h' hE⟩
      · refine ⟨σ, 3, hW, fun c h P X hX hR0 hR1 => ⟨trivial, σ, ⟨hX, hW⟩, hch, fun z => absurd c1 z,
            fun q n g hq hn hg e e2 e3  z => by obtain rfl := ep q hq e; obtain rfl := en n hn e2; obtain rfl := eg g hg e3; exact absurd c2 z,
            fun q n g hq hn hg e e2 e3 y2 z => by obtain rfl := ep q hq e; obtain rfl := en n hn e2; obtain rfl := eg g hg e3; exact fun h' hE => hR1 _ (by simp) h' hE,
            fun q n g hq hn hg e e2 e3 y2 y3 => by obtain rfl := ep q hq e; obtain rfl := en n hn e2; obtain rfl := eg g hg e3; exact absurd y3 c3⟩, fun m h P X hM hP => ?_⟩
        obtain ⟨hm, eM⟩ := hM
        show T_X9_draw [.ref m, .int (nI p), .int (nI k), .int (nI i), .int x, .int y, .int s, .int e, .int ch] h P X
        rw [tx_X9_draw, eM]
        exact ⟨⟨⟨hm, hW⟩, hch⟩, fun z => absurd c1 z,
            fun q n g hq hn hg e e2 e3  z => by obtain rfl := ep q hq e; obtain rfl := en n hn e2; obtain rfl := eg g hg e3; exact absurd c2 z,
            fun q n g hq hn hg e e2 e3 y2 z => by obtain rfl := ep q hq e; obtain rfl := en n hn e2; obtain rfl := eg g hg e3; exact fun h' hE => hP h' hE,
            fun q n g hq hn hg e e2 e3 y2 y3 => by obtain rfl := ep q hq e; obtain rfl := en n hn e2; obtain rfl := eg g hg e3; exact absurd y3 c3⟩
    · refine ⟨σ, 2, hW, fun c h P X hX hR0 hR1 => ⟨trivial, σ, ⟨hX, hW⟩, hch, fun z => absurd c1 z,
          fun q n g hq hn hg e e2 e3  z => by obtain rfl := ep q hq e; obtain rfl := en n hn e2; obtain rfl := eg g hg e3; exact fun h' hE => hR1 _ (by simp) h' hE,
          fun q n g hq hn hg e e2 e3 y2 z => by obtain rfl := ep q hq e; obtain rfl := en n hn e2; obtain rfl := eg g hg e3; exact absurd y2 c2,
          fun q n g hq hn hg e e2 e3 y2 y3 => by obtain rfl := ep q hq e; obtain rfl := en n hn e2; obtain rfl := eg g hg e3; exact absurd y2 c2⟩, fun m h P X hM hP => ?_⟩
      obtain ⟨hm, eM⟩ := hM
      show T_X9_draw [.ref m, .int (nI p), .int (nI k), .int (nI i), .int x, .int y, .int s, .int e, .int ch] h P X
      rw [tx_X9_draw, eM]
      exact ⟨⟨⟨hm, hW⟩, hch⟩, fun z => absurd c1 z,
          fun q n g hq hn hg e e2 e3  z => by obtain rfl := ep q hq e; obtain rfl := en n hn e2; obtain rfl := eg g hg e3; exact fun h' hE => hP h' hE,
          fun q n g hq hn hg e e2 e3 y2 z => by obtain rfl := ep q hq e; obtain rfl := en n hn e2; obtain rfl := eg g hg e3; exact absurd y2 c2,
          fun q n g hq hn hg e e2 e3 y2 y3 => by obtain rfl := ep q hq e; obtain rfl := en n hn e2; obtain rfl := eg g hg e3; exact absurd y2 c2⟩
  · refine ⟨σ, 1, hW, fun c h P X hX hR0 hR1 => ⟨trivial, σ, ⟨hX, hW⟩, hch, fun _ h' hE => hR1 _ (by simp) h' hE,
        fun q n g hq hn hg e e2 e3  z => absurd ⟨(pnM_iff hW).mpr ⟨q, n, hq, hn, e, e2⟩, (fgM_iff hW).mpr ⟨g, hg, e3⟩⟩ c1,
        fun q n g hq hn hg e e2 e3 y2 z => absurd ⟨(pnM_iff hW).mpr ⟨q, n, hq, hn, e, e2⟩, (fgM_iff hW).mpr ⟨g, hg, e3⟩⟩ c1,
        fun q n g hq hn hg e e2 e3 y2 y3 => absurd ⟨(pnM_iff hW).mpr ⟨q, n, hq, hn, e, e2⟩, (fgM_iff hW).mpr ⟨g, hg, e3⟩⟩ c1⟩, fun m h P X hM hP => ?_⟩
    obtain ⟨hm, eM⟩ := hM
    show T_X9_draw [.ref m, .int v, .int w, .int f, .int x, .int y, .int s, .int e, .int ch] h P X
    rw [tx_X9_draw, eM]
    exact ⟨⟨⟨hm, hW⟩, hch⟩, fun _ h' hE => hP h' hE,
        fun q n g hq hn hg e e2 e3  z => absurd ⟨(pnM_iff hW).mpr ⟨q, n, hq, hn, e, e2⟩, (fgM_iff hW).mpr ⟨g, hg, e3⟩⟩ c1,
        fun q n g hq hn hg e e2 e3 y2 z => absurd ⟨(pnM_iff hW).mpr ⟨q, n, hq, hn, e, e2⟩, (fgM_iff hW).mpr ⟨g, hg, e3⟩⟩ c1,
        fun q n g hq hn hg e e2 e3 y2 y3 => absurd ⟨(pnM_iff hW).mpr ⟨q, n, hq, hn, e, e2⟩, (fgM_iff hW).mpr ⟨g, hg, e3⟩⟩ c1⟩
theorem ag_balloon {σ : sg_T} (hW : WF σ) (v w x y a b f l : Int32) : AG σ [("java/lang/IndexOutOfBoundsException", 1), ("java/lang/IllegalArgumentException", 2), ("java/lang/IllegalStateException", 3)] (fun c => T_X8_balloon [.ref c, .int v, .int w, .int x, .int y, .int a, .int b, .int f, .int l]) (fun m => T_X9_balloon [.ref m, .int v, .int w, .int x, .int y, .int a, .int b, .int f, .int l]) := by
  have h8 := hW.1.1.2
  by_cases c1 : pnM σ v w ∧ (f = -1 ∨ fgM σ f)
  · obtain ⟨p, k, hp, hk, rfl, rfl⟩ := (pnM_iff hW).mp c1.1
    have ep : ∀ q, q < sN σ → nI p = nI q → q = p := fun q hq e => ((nI_eq (by omega) (by omega)).mp e).symm
    have w8 := (hW.2.1 p (by omega)).1.2
    have en : ∀ n, n < pN σ p → nI k = nI n → n = k := fun n hn e => ((nI_eq (by omega) (by omega)).mp e).symm
    by_cases c2 : blO x y a b l
    · by_cases c3 : bN σ p < 20 ∧ σ 5 p = -1
      · refine ⟨blS σ p (nI k) x y a b f l, 0, nI (bN σ p), nI (bN σ p), WF_bal hW hp hk c3.1 c2 c1.2, fun _ => rfl, fun c h P X hX hR0 hR1 => ⟨trivial, σ, ⟨hX, hW⟩, fun z => absurd c1 z,
            fun q n hq hn e e2 y1  z => by obtain rfl := ep q hq e; obtain rfl := en n hn e2; exact absurd c2 z,
            fun q n hq hn e e2 y1 y2 z => by obtain rfl := ep q hq e; obtain rfl := en n hn e2; exact absurd c3 z,
            fun q n hq hn e e2 y1 y2 y3 => by obtain rfl := ep q hq e; obtain rfl := en n hn e2; exact fun h' hE => hR0 rfl h' hE⟩, fun m h P X hM hP => ?_⟩
        obtain ⟨hm, eM⟩ := hM
        show T_X9_balloon [.ref m, .int (nI p), .int (nI k), .int x, .int y, .int a, .int b, .int f, .int l] h P X
        rw [tx_X9_balloon, eM]
        exact ⟨⟨hm, hW⟩, fun z => absurd c1 z,
            fun q n hq hn e e2 y1  z => by obtain rfl := ep q hq e; obtain rfl := en n hn e2; exact absurd c2 z,
            fun q n hq hn e e2 y1 y2 z => by obtain rfl := ep q hq e; obtain rfl := en n hn e2; exact absurd c3 z,
            fun q n hq hn e e2 y1 y2 y3 => by obtain rfl := ep q hq e; obtain rfl := en n hn e2; exact fun h' hE => hP h' hE⟩
      · refine ⟨σ, 3, 0, 0, hW, fun _ => rfl, fun c h P X hX hR0 hR1 => ⟨trivial, σ, ⟨hX, hW⟩, fun z => absurd c1 z,
            fun q n hq hn e e2 y1  z => by obtain rfl := ep q hq e; obtain rfl := en n hn e2; exact absurd c2 z,
            fun q n hq hn e e2 y1 y2 z => by obtain rfl := ep q hq e; obtain rfl := en n hn e2; exact fun h' hE => hR1 _ (by simp) h' hE,
            fun q n hq hn e e2 y1 y2 y3 => by obtain rfl := ep q hq e; obtain rfl := en n hn e2; exact absurd y3 c3⟩, fun m h P X hM hP => ?_⟩
        obtain ⟨hm, eM⟩ := hM
        show T_X9_balloon [.ref m, .int (nI p), .int (nI k), .int x, .int y, .int a, .int b, .int f, .int l] h P X
        rw [tx_X9_balloon, eM]
        exact ⟨⟨hm, hW⟩, fun z => absurd c1 z,
            fun q n hq hn e e2 y1  z => by obtain rfl := ep q hq e; obtain rfl := en n hn e2; exact absurd c2 z,
            fun q n hq hn e e2 y1 y2 z => by obtain rfl := ep q hq e; obtain rfl := en n hn e2; exact fun h' hE => hP h' hE,
            fun q n hq hn e e2 y1 y2 y3 => by obtain rfl := ep q hq e; obtain rfl := en n hn e2; exact absurd y3 c3⟩
    · refine ⟨σ, 2, 0, 0, hW, fun _ => rfl, fun c h P X hX hR0 hR1 => ⟨trivial, σ, ⟨hX, hW⟩, fun z => absurd c1 z,
          fun q n hq hn e e2 y1  z => by obtain rfl := ep q hq e; obtain rfl := en n hn e2; exact fun h' hE => hR1 _ (by simp) h' hE,
          fun q n hq hn e e2 y1 y2 z => by obtain rfl := ep q hq e; obtain rfl := en n hn e2; exact absurd y2 c2,
          fun q n hq hn e e2 y1 y2 y3 => by obtain rfl := ep q hq e; obtain rfl := en n hn e2; exact absurd y2 c2⟩, fun m h P X hM hP => ?_⟩
      obtain ⟨hm, eM⟩ := hM
      show T_X9_balloon [.ref m, .int (nI p), .int (nI k), .int x, .int y, .int a, .int b, .int f, .int l] h P X
      rw [tx_X9_balloon, eM]
      exact ⟨⟨hm, hW⟩, fun z => absurd c1 z,
          fun q n hq hn e e2 y1  z => by obtain rfl := ep q hq e; obtain rfl := en n hn e2; exact fun h' hE => hP h' hE,
          fun q n hq hn e e2 y1 y2 z => by obtain rfl := ep q hq e; obtain rfl := en n hn e2; exact absurd y2 c2,
          fun q n hq hn e e2 y1 y2 y3 => by obtain rfl := ep q hq e; obtain rfl := en n hn e2; exact absurd y2 c2⟩
  · refine ⟨σ, 1, 0, 0, hW, fun _ => rfl, fun c h P X hX hR0 hR1 => ⟨trivial, σ, ⟨hX, hW⟩, fun _ h' hE => hR1 _ (by simp) h' hE,
        fun q n hq hn e e2 y1  z => absurd y1 c1,
        fun q n hq hn e e2 y1 y2 z => absurd y1 c1,
        fun q n hq hn e e2 y1 y2 y3 => absurd y1 c1⟩, fun m h P X hM hP => ?_⟩
    obtain ⟨hm, eM⟩ := hM
    show T_X9_balloon [.ref m, .int v, .int w, .int x, .int y, .int a, .int b, .int f, .int l] h P X
    rw [tx_X9_balloon, eM]
    exact ⟨⟨hm, hW⟩, fun _ h' hE => hP h' hE,
        fun q n hq hn e e2 y1  z => absurd y1 c1,
        fun q n hq hn e e2 y1 y2 z => absurd y1 c1,
        fun q n hq hn e e2 y1 y2 y3 => absurd y1 c1⟩
theorem ag_tell {σ : sg_T} (hW : WF σ) (f t v r : Int32) (hr : r &&& 1 = r) : AG σ [("java/lang/IndexOutOfBoundsException", 1), ("java/lang/IllegalArgumentException", 2), ("java/lang/IllegalStateException", 3)] (fun c => T_X8_tell [.ref c, .int f, .int t, .int v, .int r]) (fun m => T_X9_tell [.ref m, .int f, .int t, .int v, .int r]) := by
  have h8 := hW.1.1.2
  by_cases c1 : 0 ≤ f ∧ f ≤ 9
  · by_cases c2 : tlO t v
    · by_cases c3 : sT σ < 40
      · refine ⟨tlS σ f t v r, 0, nI (sT σ), nI (sT σ), WF_tell hW hr c3, fun _ => rfl, fun c h P X hX hR0 hR1 => ⟨trivial, σ, ⟨hX, hW⟩, hr, fun z => absurd c1 z,
            fun y1  z => by skip; exact absurd c2 z,
            fun y1 y2 z => by skip; exact absurd c3 z,
            fun y1 y2 y3 => by skip; exact fun h' hE => hR0 rfl h' hE⟩, fun m h P X hM hP => ?_⟩
        obtain ⟨hm, eM⟩ := hM
        show T_X9_tell [.ref m, .int f, .int t, .int v, .int r] h P X
        rw [tx_X9_tell, eM]
        exact ⟨⟨⟨hm, hW⟩, hr⟩, fun z => absurd c1 z,
            fun y1  z => by skip; exact absurd c2 z,
            fun y1 y2 z => by skip; exact absurd c3 z,
            fun y1 y2 y3 => by skip; exact fun h' hE => hP h' hE⟩
      · refine ⟨σ, 3, 0, 0, hW, fun _ => rfl, fun c h P X hX hR0 hR1 => ⟨trivial, σ, ⟨hX, hW⟩, hr, fun z => absurd c1 z,
            fun y1  z => by skip; exact absurd c2 z,
            fun y1 y2 z => by skip; exact fun h' hE => hR1 _ (by simp) h' hE,
            fun y1 y2 y3 => by skip; exact absurd y3 c3⟩, fun m h P X hM hP => ?_⟩
        obtain ⟨hm, eM⟩ := hM
        show T_X9_tell [.ref m, .int f, .int t, .int v, .int r] h P X
        rw [tx_X9_tell, eM]
        exact ⟨⟨⟨hm, hW⟩, hr⟩, fun z => absurd c1 z,
            fun y1  z => by skip; exact absurd c2 z,
            fun y1 y2 z => by skip; exact fun h' hE => hP h' hE,
            fun y1 y2 y3 => by skip; exact absurd y3 c3⟩
    · refine ⟨σ, 2, 0, 0, hW, fun _ => rfl, fun c h P X hX hR0 hR1 => ⟨trivial, σ, ⟨hX, hW⟩, hr, fun z => absurd c1 z,
          fun y1  z => by skip; exact fun h' hE => hR1 _ (by simp) h' hE,
          fun y1 y2 z => by skip; exact absurd y2 c2,
          fun y1 y2 y3 => by skip; exact absurd y2 c2⟩, fun m h P X hM hP => ?_⟩
      obtain ⟨hm, eM⟩ := hM
      show T_X9_tell [.ref m, .int f, .int t, .int v, .int r] h P X
      rw [tx_X9_tell, eM]
      exact ⟨⟨⟨hm, hW⟩, hr⟩, fun z => absurd c1 z,
          fun y1  z => by skip; exact fun h' hE => hP h' hE,
          fun y1 y2 z => by skip; exact absurd y2 c2,
          fun y1 y2 y3 => by skip; exact absurd y2 c2⟩
  · refine ⟨σ, 1, 0, 0, hW, fun _ => rfl, fun c h P X hX hR0 hR1 => ⟨trivial, σ, ⟨hX, hW⟩, hr, fun _ h' hE => hR1 _ (by simp) h' hE,
        fun y1  z => absurd y1 c1,
        fun y1 y2 z => absurd y1 c1,
        fun y1 y2 y3 => absurd y1 c1⟩, fun m h P X hM hP => ?_⟩
    obtain ⟨hm, eM⟩ := hM
    show T_X9_tell [.ref m, .int f, .int t, .int v, .int r] h P X
    rw [tx_X9_tell, eM]
    exact ⟨⟨⟨hm, hW⟩, hr⟩, fun _ h' hE => hP h' hE,
        fun y1  z => absurd y1 c1,
        fun y1 y2 z => absurd y1 c1,
        fun y1 y2 y3 => absurd y1 c1⟩
theorem ag_known {σ : sg_T} (hW : WF σ) (f t w : Int32) : AG σ [("java/lang/IndexOutOfBoundsException", 1), ("java/lang/IllegalArgumentException", 2)] (fun c => T_X8_known [.ref c, .int f, .int t, .int w]) (fun m => T_X9_known [.ref m, .int f, .int t, .int w]) := by
  have h8 := hW.1.1.2
  by_cases c1 : 0 ≤ f ∧ f ≤ 9
  · by_cases c2 : knO t w
    · refine ⟨σ, 0, knV σ (knL σ f t w (sT σ) 0 none), knV σ (knL σ f t w (sT σ) 0 none), hW, fun _ => rfl, fun c h P X hX hR0 hR1 => ⟨trivial, σ, ⟨hX, hW⟩, fun z => absurd c1 z,
          fun y1  z => by skip; exact absurd c2 z,
          fun y1 y2 => by skip; exact fun h' hE => hR0 rfl h' hE⟩, fun m h P X hM hP => ?_⟩
      obtain ⟨hm, eM⟩ := hM
      show T_X9_known [.ref m, .int f, .int t, .int w] h P X
      rw [tx_X9_known, eM]
      exact ⟨⟨hm, hW⟩, fun z => absurd c1 z,
          fun y1  z => by skip; exact absurd c2 z,
          fun y1 y2 => by skip; exact fun h' hE => hP h' hE⟩
    · refine ⟨σ, 2, 0, 0, hW, fun _ => rfl, fun c h P X hX hR0 hR1 => ⟨trivial, σ, ⟨hX, hW⟩, fun z => absurd c1 z,
          fun y1  z => by skip; exact fun h' hE => hR1 _ (by simp) h' hE,
          fun y1 y2 => by skip; exact absurd y2 c2⟩, fun m h P X hM hP => ?_⟩
      obtain ⟨hm, eM⟩ := hM
      show T_X9_known [.ref m, .int f, .int t, .int w] h P X
      rw [tx_X9_known, eM]
      exact ⟨⟨hm, hW⟩, fun z => absurd c1 z,
          fun y1  z => by skip; exact fun h' hE => hP h' hE,
          fun y1 y2 => by skip; exact absurd y2 c2⟩
  · refine ⟨σ, 1, 0, 0, hW, fun _ => rfl, fun c h P X hX hR0 hR1 => ⟨trivial, σ, ⟨hX, hW⟩, fun _ h' hE => hR1 _ (by simp) h' hE,
        fun y1  z => absurd y1 c1,
        fun y1 y2 => absurd y1 c1⟩, fun m h P X hM hP => ?_⟩
    obtain ⟨hm, eM⟩ := hM
    show T_X9_known [.ref m, .int f, .int t, .int w] h P X
    rw [tx_X9_known, eM]
    exact ⟨⟨hm, hW⟩, fun _ h' hE => hP h' hE,
        fun y1  z => absurd y1 c1,
        fun y1 y2 => absurd y1 c1⟩
theorem ag_contradictions {σ : sg_T} (hW : WF σ) (f : Int32) : AG σ [("java/lang/IndexOutOfBoundsException", 1)] (fun c => T_X8_contradictions [.ref c, .int f]) (fun m => T_X9_contradictions [.ref m, .int f]) := by
  have h8 := hW.1.1.2
  by_cases c1 : 0 ≤ f ∧ f ≤ 9
  · refine ⟨σ, 0, ctM σ f, ctM σ f, hW, fun _ => rfl, fun c h P X hX hR0 hR1 => ⟨trivial, σ, ⟨hX, hW⟩, fun z => absurd c1 z,
        fun y1  => by skip; exact fun h' hE => hR0 rfl h' hE⟩, fun m h P X hM hP => ?_⟩
    obtain ⟨hm, eM⟩ := hM
    show T_X9_contradictions [.ref m, .int f] h P X
    rw [tx_X9_contradictions, eM]
    exact ⟨⟨hm, hW⟩, fun z => absurd c1 z,
        fun y1  => by skip; exact fun h' hE => hP h' hE⟩
  · refine ⟨σ, 1, 0, 0, hW, fun _ => rfl, fun c h P X hX hR0 hR1 => ⟨trivial, σ, ⟨hX, hW⟩, fun _ h' hE => hR1 _ (by simp) h' hE,
        fun y1  => absurd y1 c1⟩, fun m h P X hM hP => ?_⟩
    obtain ⟨hm, eM⟩ := hM
    show T_X9_contradictions [.ref m, .int f] h P X
    rw [tx_X9_contradictions, eM]
    exact ⟨⟨hm, hW⟩, fun _ h' hE => hP h' hE,
        fun y1  => absurd y1 c1⟩
theorem ag_page {σ : sg_T} (hW : WF σ) (l : Int32) (hl : l &&& 1 = l) : AG σ [("java/lang/IllegalStateException", 1)] (fun c => T_X8_page [.ref c, .int l]) (fun m => T_X9_page [.ref m, .int l]) := by
  by_cases c1 : sN σ < 8
  · refine ⟨pgS σ l, 0, nI (sN σ), nI (sN σ), WF_page hW c1 hl, fun _ => rfl, fun c h P X hX hR0 hR1 => ⟨trivial, σ, ⟨hX, hW⟩, hl, fun z => absurd c1 z, fun _ h' hE => hR0 rfl h' hE⟩, fun m h P X hM hP => ?_⟩
    obtain ⟨hm, eM⟩ := hM
    show T_X9_page [.ref m, .int l] h P X
    rw [tx_X9_page, eM]
    exact ⟨⟨⟨hm, hW⟩, hl⟩, fun _ h' hE => hP h' hE, fun z => absurd c1 z⟩
  · refine ⟨σ, 1, 0, 0, hW, fun _ => rfl, fun c h P X hX hR0 hR1 => ⟨trivial, σ, ⟨hX, hW⟩, hl, fun _ h' hE => hR1 _ (by simp) h' hE, fun z => absurd z c1⟩, fun m h P X hM hP => ?_⟩
    obtain ⟨hm, eM⟩ := hM
    show T_X9_page [.ref m, .int l] h P X
    rw [tx_X9_page, eM]
    exact ⟨⟨⟨hm, hW⟩, hl⟩, fun z => absurd z c1, fun _ h' hE => hP h' hE⟩
theorem ag_figure {σ : sg_T} (hW : WF σ) : AG σ [("java/lang/IllegalStateException", 1)] (fun c => TC_X8_figure [.ref c]) (fun m => T_X9_figure [.ref m]) := by
  by_cases c1 : sF σ < 12
  · refine ⟨su σ 13 0 (nI (sF σ + 1)), 0, nI (sF σ), nI (sF σ), WF_num hW (Or.inl ⟨rfl, by omega, by omega⟩), fun _ => rfl, fun c h P X hX hR0 hR1 => ⟨σ, ⟨hX, hW⟩, fun _ h' hE => hR0 rfl h' hE, fun z => absurd c1 z⟩, fun m h P X hM hP => ?_⟩
    obtain ⟨hm, eM⟩ := hM
    show T_X9_figure [.ref m] h P X
    rw [tx_X9_figure, eM]
    exact ⟨⟨hm, hW⟩, fun _ h' hE => hP h' hE, fun z => absurd c1 z⟩
  · refine ⟨σ, 1, 0, 0, hW, fun _ => rfl, fun c h P X hX hR0 hR1 => ⟨σ, ⟨hX, hW⟩, fun z => absurd z c1, fun _ h' hE => hR1 _ (by simp) h' hE⟩, fun m h P X hM hP => ?_⟩
    obtain ⟨hm, eM⟩ := hM
    show T_X9_figure [.ref m] h P X
    rw [tx_X9_figure, eM]
    exact ⟨⟨hm, hW⟩, fun z => absurd z c1, fun _ h' hE => hP h' hE⟩
theorem ag_workers {σ : sg_T} (hW : WF σ) (v : Int32) : AG σ [("java/lang/IllegalArgumentException", 1)] (fun c => TC_X8_workers [.ref c, .int v]) (fun m => T_X9_workers [.ref m, .int v]) := by
  by_cases c1 : 1 ≤ v ∧ v ≤ 5
  · obtain ⟨w, w1, w2, rfl⟩ := rng2 (b := 1) (a := 5) c1.1 c1.2 (by omega) (by omega)
    refine ⟨su σ 33 0 (nI w), 0, σ 33 0, σ 33 0, WF_num hW (Or.inr (Or.inr ⟨rfl, w1, w2⟩)), fun _ => rfl, fun c h P X hX hR0 hR1 => ⟨σ, ⟨hX, hW⟩, fun _ h' hE => hR0 rfl h' hE, fun z => absurd c1 z⟩, fun m h P X hM hP => ?_⟩
    obtain ⟨hm, eM⟩ := hM
    show T_X9_workers [.ref m, .int (nI w)] h P X
    rw [tx_X9_workers, eM]
    exact ⟨⟨hm, hW⟩, fun _ h' hE => hP h' hE, fun z => absurd c1 z⟩
  · refine ⟨σ, 1, 0, 0, hW, fun _ => rfl, fun c h P X hX hR0 hR1 => ⟨σ, ⟨hX, hW⟩, fun z => absurd z c1, fun _ h' hE => hR1 _ (by simp) h' hE⟩, fun m h P X hM hP => ?_⟩
    obtain ⟨hm, eM⟩ := hM
    show T_X9_workers [.ref m, .int v] h P X
    rw [tx_X9_workers, eM]
    exact ⟨⟨hm, hW⟩, fun z => absurd z c1, fun _ h' hE => hP h' hE⟩
theorem ag_printed {σ : sg_T} (hW : WF σ) (v x : Int32) : AG σ [("java/lang/IndexOutOfBoundsException", 1), ("java/lang/IllegalArgumentException", 2)] (fun c => TC_X8_printed [.ref c, .int v, .int x]) (fun m => T_X9_printed [.ref m, .int v, .int x]) := by
  have h8 := hW.1.1.2
  by_cases c1 : pgM σ v
  · obtain ⟨p, hp, rfl⟩ := (pgM_iff hW).mp c1
    have ep : ∀ q, q < sN σ → nI p = nI q → q = p := fun q hq e => ((nI_eq (by omega) (by omega)).mp e).symm
    by_cases c2 : 0 ≤ x ∧ x ≤ 10
    · refine ⟨σ, 0, prM σ p x, prM σ p x, hW, fun _ => rfl, fun c h P X hX hR0 hR1 => ⟨σ, ⟨hX, hW⟩, fun z => absurd c1 z, fun q hq e _ => by obtain rfl := ep q hq e; exact hR0 rfl h (CE.rfl hX), fun q hq e z => absurd c2 z⟩, fun m h P X hM hP => ?_⟩
      obtain ⟨hm, eM⟩ := hM
      show T_X9_printed [.ref m, .int (nI p), .int x] h P X
      rw [tx_X9_printed, eM]
      exact ⟨⟨hm, hW⟩, fun z => absurd c1 z, fun q hq e z => absurd c2 z, fun q hq e _ h' hE => by obtain rfl := ep q hq e; exact hP h' hE⟩
    · refine ⟨σ, 2, 0, 0, hW, fun _ => rfl, fun c h P X hX hR0 hR1 => ⟨σ, ⟨hX, hW⟩, fun z => absurd c1 z, fun q hq e z => absurd z c2, fun q hq e z h' hE => hR1 _ (by simp) h' hE⟩, fun m h P X hM hP => ?_⟩
      obtain ⟨hm, eM⟩ := hM
      show T_X9_printed [.ref m, .int (nI p), .int x] h P X
      rw [tx_X9_printed, eM]
      exact ⟨⟨hm, hW⟩, fun z => absurd c1 z, fun q hq e z h' hE => hP h' hE, fun q hq e z => absurd z c2⟩
  · refine ⟨σ, 1, 0, 0, hW, fun _ => rfl, fun c h P X hX hR0 hR1 => ⟨σ, ⟨hX, hW⟩, fun z h' hE => hR1 _ (by simp) h' hE, fun q hq e => absurd ((pgM_iff hW).mpr ⟨q, hq, e⟩) c1, fun q hq e => absurd ((pgM_iff hW).mpr ⟨q, hq, e⟩) c1⟩, fun m h P X hM hP => ?_⟩
    obtain ⟨hm, eM⟩ := hM
    show T_X9_printed [.ref m, .int v, .int x] h P X
    rw [tx_X9_printed, eM]
    exact ⟨⟨hm, hW⟩, fun z h' hE => hP h' hE, fun q hq e => absurd ((pgM_iff hW).mpr ⟨q, hq, e⟩) c1, fun q hq e => absurd ((pgM_iff hW).mpr ⟨q, hq, e⟩) c1⟩
theorem ag_pass {σ : sg_T} (hW : WF σ) (w : Int32) : AG σ [("java/lang/IllegalArgumentException", 1), ("java/lang/IllegalStateException", 2)] (fun c => T_X8_pass [.ref c, .int w]) (fun m => T_X9_pass [.ref m, .int w]) := by
  by_cases c1 : 1 ≤ w ∧ w ≤ 50
  · obtain ⟨W, w1, w2, rfl⟩ := rng2 (b := 1) (a := 50) c1.1 c1.2 (by omega) (by omega)
    have ep : ∀ V, V ≤ 50 → nI W = nI V → V = W := fun V h e => ((nI_eq (by omega) (by omega)).mp e).symm
    obtain ⟨d, e32, hd⟩ := hW.1.2.2.2.1
    by_cases c2 : σ 32 0 + nI W ≤ 200
    · have hdW : d + W ≤ 200 := by
        rw [e32, nI_add] at c2
        exact (leI (a := d + W) (b := 200) (by omega) (by omega)).mp c2
      refine ⟨wkN W σ, 0, wkN W σ 32 0, wkN W σ 32 0, WF_wkN W σ d hW e32 hdW, fun _ => rfl, fun c h P X hX hR0 hR1 => ⟨trivial, σ, ⟨hX, hW⟩, fun z => absurd c1 z, fun V hV e _ z => absurd (e ▸ c2) z, fun V hV e a z h' hE => ?_⟩, fun m h P X hM hP => ?_⟩
      · have : V = W := ep V hV e
        subst this
        exact hR0 rfl h' hE
      · obtain ⟨hm, eM⟩ := hM
        show T_X9_pass [.ref m, .int (nI W)] h P X
        rw [tx_X9_pass, eM]
        refine ⟨⟨hm, hW⟩, fun z => absurd c1 z, fun V hV e _ z => absurd (e ▸ c2) z, fun V hV e a z h' hE => ?_⟩
        have : V = W := ep V hV e
        subst this
        exact hP h' hE
    · refine ⟨σ, 2, 0, 0, hW, fun _ => rfl, fun c h P X hX hR0 hR1 => ⟨trivial, σ, ⟨hX, hW⟩, fun z => absurd c1 z, fun V hV e _ z h' hE => hR1 _ (by simp) h' hE, fun V hV e _ z => absurd (e ▸ z) c2⟩, fun m h P X hM hP => ?_⟩
      obtain ⟨hm, eM⟩ := hM
      show T_X9_pass [.ref m, .int (nI W)] h P X
      rw [tx_X9_pass, eM]
      exact ⟨⟨hm, hW⟩, fun z => absurd c1 z, fun V hV e _ z h' hE => hP h' hE, fun V hV e _ z => absurd (e ▸ z) c2⟩
  · refine ⟨σ, 1, 0, 0, hW, fun _ => rfl, fun c h P X hX hR0 hR1 => ⟨trivial, σ, ⟨hX, hW⟩, fun _ h' hE => hR1 _ (by simp) h' hE, fun V hV e z => absurd (e ▸ z) c1, fun V hV e z => absurd (e ▸ z) c1⟩, fun m h P X hM hP => ?_⟩
    obtain ⟨hm, eM⟩ := hM
    show T_X9_pass [.ref m, .int w] h P X
    rw [tx_X9_pass, eM]
    exact ⟨⟨hm, hW⟩, fun _ h' hE => hP h' hE, fun V hV e z => absurd (e ▸ z) c1, fun V hV e z => absurd (e ▸ z) c1⟩
