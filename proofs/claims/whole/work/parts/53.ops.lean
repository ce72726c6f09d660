/-! what a state of the model is -/
def sN (σ : sg_T) : Nat := (σ 0 0).toNatClampNeg
def sF (σ : sg_T) : Nat := (σ 13 0).toNatClampNeg
def sT (σ : sg_T) : Nat := (σ 26 0).toNatClampNeg
def pN (σ : sg_T) (p : Nat) : Nat := (σ 2 p).toNatClampNeg
def bN (σ : sg_T) (p : Nat) : Nat := (σ 3 p).toNatClampNeg
def wfP (σ : sg_T) (p : Nat) : Prop := (σ 2 p = nI (pN σ p) ∧ pN σ p ≤ 8) ∧ (σ 3 p = nI (bN σ p) ∧ bN σ p ≤ 20) ∧ σ 1 p &&& 1 = σ 1 p ∧ (∃ s, σ 4 p = nI s ∧ s ≤ 4) ∧ (sN σ ≤ p → pN σ p = 0 ∧ bN σ p = 0 ∧ σ 4 p = 0 ∧ σ 7 p = 0) ∧ (p < sN σ → (σ 5 p = -1 → σ 7 p = 0) ∧ (σ 5 p = -1 ∨ ∃ w, σ 5 p = nI w ∧ w ≤ 200))
def wfB (σ : sg_T) (i : Nat) : Prop := ∃ x y w h : Nat, σ 9 i = nI x ∧ σ 10 i = nI y ∧ σ 11 i = nI w ∧ σ 12 i = nI h ∧ 4 ≤ w ∧ 4 ≤ h ∧ x + w ≤ 60 ∧ y + h ≤ 80
def wfF (σ : sg_T) (p k f : Nat) : Prop := σ 18 (12 * (8 * p + k) + f) &&& 1 = σ 18 (12 * (8 * p + k) + f) ∧ (σ 16 (12 * (8 * p + k) + f) = 0 ∨ (k < pN σ p ∧ f < sF σ ∧ ∃ x y s : Nat, σ 14 (12 * (8 * p + k) + f) = nI x ∧ σ 15 (12 * (8 * p + k) + f) = nI y ∧ σ 16 (12 * (8 * p + k) + f) = nI s ∧ 2 ≤ s ∧ s ≤ 20 ∧ x + s ≤ 60 ∧ y + s ≤ 80))
def wfL (σ : sg_T) (p k : Nat) : Prop := (∃ j, σ 19 (20 * p + k) = nI j ∧ j < pN σ p) ∧ (σ 24 (20 * p + k) = -1 ∨ ∃ f, f < sF σ ∧ σ 24 (20 * p + k) = nI f) ∧ (∃ l, σ 25 (20 * p + k) = nI l ∧ 1 ≤ l ∧ l ≤ 200) ∧ ∃ x y w h : Nat, σ 20 (20 * p + k) + 60 = nI x ∧ σ 21 (20 * p + k) = nI y ∧ σ 22 (20 * p + k) = nI w ∧ σ 23 (20 * p + k) = nI h ∧ 1 ≤ x ∧ x ≤ 119 ∧ y ≤ 79 ∧ 2 ≤ w ∧ w ≤ 60 ∧ 2 ≤ h ∧ h ≤ 80 ∧ 61 ≤ x + w ∧ x + w ≤ 179
def WF (σ : sg_T) : Prop := ((σ 0 0 = nI (sN σ) ∧ sN σ ≤ 8) ∧ (σ 13 0 = nI (sF σ) ∧ sF σ ≤ 12) ∧ (σ 26 0 = nI (sT σ) ∧ sT σ ≤ 40) ∧ (∃ w, σ 32 0 = nI w ∧ w ≤ 200) ∧ ∃ w, σ 33 0 = nI w ∧ 1 ≤ w ∧ w ≤ 5) ∧
  (∀ p, p < 8 → wfP σ p) ∧ (∀ p k, p < 8 → k < pN σ p → wfB σ (8 * p + k)) ∧ (∀ p k f, p < 8 → k < 8 → f < 12 → wfF σ p k f) ∧ (∀ p k, p < 8 → k < bN σ p → wfL σ p k) ∧ ∀ j, σ 30 j &&& 1 = σ 30 j
/-- the end of a call of the model: only the model has changed, the state is σ', the code t -/
def ME (h : hp_T) (m : Nat) (σ' : sg_T) (t : Int32) (h' : hp_T) : Prop := CFr h h' ∧ RM h' m σ' ∧ hI h' 745 m 0 = t
theorem nIiff {v M : Int32} {n : Nat} (hM : M = nI n) (hn : n < 1000) : (0 ≤ v ∧ v ≤ M - 1) ↔ ∃ p, p < n ∧ v = nI p := by
  subst hM
  constructor
  · rintro ⟨a, b⟩
    match n, hn with
    | 0, _ => exact absurd (Int32.le_trans a b) (by decide)
    | n + 1, hn =>
      rw [nI_pred] at b
      obtain ⟨j, hj, rfl⟩ := nI_of (Int32.not_lt.mpr a)
      exact ⟨j, by have := (nI_leI (by omega) (by omega)).mp b; omega, rfl⟩
  · rintro ⟨p, hp, rfl⟩
    match n, hn with
    | 0, _ => omega
    | n + 1, hn =>
      rw [nI_pred]
      exact ⟨nI_pos' (by omega), nI_le (by omega) (by omega)⟩
theorem pgM_iff {σ : sg_T} (hW : WF σ) {v : Int32} : pgM σ v ↔ ∃ p, p < sN σ ∧ v = nI p := nIiff hW.1.1.1 (by have := hW.1.1.2; omega)
def fgM (σ : sg_T) (f : Int32) : Prop := 0 ≤ f ∧ f ≤ σ 13 0 - 1
theorem fgM_iff {σ : sg_T} (hW : WF σ) {v : Int32} : fgM σ v ↔ ∃ p, p < sF σ ∧ v = nI p := nIiff hW.1.2.1.1 (by have := hW.1.2.1.2; omega)
theorem pnM_iff {σ : sg_T} (hW : WF σ) {v w : Int32} : pnM σ v w ↔ ∃ p k, p < sN σ ∧ k < pN σ p ∧ v = nI p ∧ w = nI k := by
  unfold pnM
  rw [pgM_iff hW]
  have w0 := hW.1.1.2
  constructor
  · rintro ⟨⟨p, hp, rfl⟩, b⟩
    have wp := hW.2.1 p (by omega)
    rw [cl_nI (by omega), nIiff wp.1.1 (by have := wp.1.2; omega)] at b
    obtain ⟨k, hk, rfl⟩ := b
    exact ⟨p, k, hp, hk, rfl, rfl⟩
  · rintro ⟨p, k, hp, hk, rfl, rfl⟩
    have wp := hW.2.1 p (by omega)
    refine ⟨⟨p, hp, rfl⟩, ?_⟩
    rw [cl_nI (by omega)]
    exact (nIiff wp.1.1 (by have := wp.1.2; omega)).mpr ⟨k, hk, rfl⟩
theorem blM_iff {σ : sg_T} (hW : WF σ) {v w : Int32} : blM σ v w ↔ ∃ p k, p < sN σ ∧ k < bN σ p ∧ v = nI p ∧ w = nI k := by
  unfold blM
  rw [pgM_iff hW]
  have w0 := hW.1.1.2
  constructor
  · rintro ⟨⟨p, hp, rfl⟩, b⟩
    have wp := hW.2.1 p (by omega)
    rw [cl_nI (by omega), nIiff wp.2.1.1 (by have := wp.2.1.2; omega)] at b
    obtain ⟨k, hk, rfl⟩ := b
    exact ⟨p, k, hp, hk, rfl, rfl⟩
  · rintro ⟨p, k, hp, hk, rfl, rfl⟩
    have wp := hW.2.1 p (by omega)
    refine ⟨⟨p, hp, rfl⟩, ?_⟩
    rw [cl_nI (by omega)]
    exact (nIiff wp.2.1.1 (by have := wp.2.1.2; omega)).mpr ⟨k, hk, rfl⟩
theorem pgM_in {σ : sg_T} (hW : WF σ) {v : Int32} (c : pgM σ v) : vp_in v 8 := by
  obtain ⟨p, hp, rfl⟩ := (pgM_iff hW).mp c
  exact pk_in' (by have := hW.1.1.2; omega) (by omega)
theorem nq8 {a : Nat} (h : a < 1000) : (nI a = 8) ↔ a = 8 := nI_eq (a := a) (b := 8) (by omega) (by omega)
theorem nq12 {a : Nat} (h : a < 1000) : (nI a = 12) ↔ a = 12 := nI_eq (a := a) (b := 12) (by omega) (by omega)
theorem nq20 {a : Nat} (h : a < 1000) : (nI a = 20) ↔ a = 20 := nI_eq (a := a) (b := 20) (by omega) (by omega)
theorem nq40 {a : Nat} (h : a < 1000) : (nI a = 40) ↔ a = 40 := nI_eq (a := a) (b := 40) (by omega) (by omega)
theorem n0le0 : ((0 : Int32) ≤ 0) = True := by decide
theorem n1le0 : ((1 : Int32) ≤ 0) = False := by decide
theorem n2le0 : ((2 : Int32) ≤ 0) = False := by decide
theorem n3le0 : ((3 : Int32) ≤ 0) = False := by decide
theorem n3e0 : ((3 : Int32) = 0) = False := by decide
def wp_X9_makes_0 (P : Option Value → hp_T → Prop) (X : String → hp_T → Prop) : KT :=
  i_aload 0 (i_getR 11 705 (i_aload 0 (i_getI 11 704 (i_iload 1 (i_zast 101 (i_aload 0 (i_getR 11 709 (i_aload 0 (i_getI 11 704 (i_pushI (-1) (i_ast 105 (i_aload 0 (i_dup (i_getI 11 704
    (i_pushI 1 (i_iadd (i_putI 11 704 (i_aload 0 (i_getI 11 704 (i_pushI 1 (i_isub (i_iret P))))))))))))))))))))))
theorem wx_X9_makes_0 (P : Option Value → hp_T → Prop) (X : String → hp_T → Prop) (ls : List (Option Value)) (st : List Value) (h : hp_T) : wp_X9_makes_0 P X ls st h = (i_aload 0 (i_getR 11 705 (i_aload 0 (i_getI 11 704 (i_iload 1 (i_zast 101 (i_aload 0 (i_getR 11 709 (i_aload 0 (i_getI 11 704 (i_pushI (-1) (i_ast 105 (i_aload 0 (i_dup (i_getI 11 704
    (i_pushI 1 (i_iadd (i_putI 11 704 (i_aload 0 (i_getI 11 704 (i_pushI 1 (i_isub (i_iret P))))))))))))))))))))))) ls st h := rfl
set_option maxRecDepth 20000 in
theorem go_X9_makes_0 {z : zT} {P : Option Value → hp_T → Prop} {X : String → hp_T → Prop} (hz : Cx z cX9_makes 2 "PanelryModel" "makes" 0 0 0) (hr : Rt z (some .int) P X 0 0) : Go z 0 0 0 (wp_X9_makes_0 P X) := 
  s_aload_n hz rfl dX9_makes_0 (fg_RX9_7 hz dX9_makes_1 (s_aload_n hz rfl dX9_makes_4 (fg_RX9_114 hz dX9_makes_5 (s_iload_n hz rfl dX9_makes_8 (s_zast hz rfl rfl rfl rfl dX9_makes_9 (s_aload_n hz rfl dX9_makes_10
    (fg_RX9_23 hz dX9_makes_11 (s_aload_n hz rfl dX9_makes_14 (fg_RX9_114 hz dX9_makes_15 (s_iconst hz rfl dX9_makes_18 (s_iast hz rfl rfl rfl rfl dX9_makes_19 (s_aload_n hz rfl dX9_makes_20
    (s_dup hz dX9_makes_21 (fg_RX9_114 hz dX9_makes_22 (s_iconst hz rfl dX9_makes_25 (s_iadd hz dX9_makes_26 (fp_RX9_114 hz dX9_makes_27 (s_aload_n hz rfl dX9_makes_30 (fg_RX9_114 hz dX9_makes_31
    (s_iconst hz rfl dX9_makes_34 (s_isub hz dX9_makes_35 (s_iret hz hr rfl rfl dX9_makes_36))))))))))))))))))))))

def T_X9_makes : PT := fun av h P X => match av with
  | [.ref m, .int l] => wp_X9_makes_0 P X [some (.ref m), some (.int l)] [] h
  | _ => False
theorem tx_X9_makes (m : Nat) (l : Int32) (h : hp_T) (P : Option Value → hp_T → Prop) (X : String → hp_T → Prop) : T_X9_makes [.ref m, .int l] h P X = (wp_X9_makes_0 P X [some (.ref m), some (.int l)] [] h) := rfl
set_option maxRecDepth 20000 in
theorem ct_X9_makes : CT yX9_makes cX9_makes 2 (some .int) 0 0 0 T_X9_makes := by
  refine ct_ofE (by decide) (fun z av h P X hT hz hr => ?_) (fun av h P X hT => ?_)
  · unfold T_X9_makes at hT
    split at hT
    · exact ⟨_, go_X9_makes_0 hz hr, hT⟩
    · exact hT.elim
  · unfold T_X9_makes at hT
    split at hT
    · exact ⟨Nat.le_of_ble_eq_true rfl, by simp [isC1_int, isC1_ref, isC1_null, isC1_rf]⟩
    · exact hT.elim
def wp_X9_page_34 (P : Option Value → hp_T → Prop) (X : String → hp_T → Prop) : KT :=
  i_iret P
theorem wx_X9_page_34 (P : Option Value → hp_T → Prop) (X : String → hp_T → Prop) (ls : List (Option Value)) (st : List Value) (h : hp_T) : wp_X9_page_34 P X ls st h = (i_iret P) ls st h := rfl
set_option maxRecDepth 20000 in
theorem go_X9_page_34 {z : zT} {P : Option Value → hp_T → Prop} {X : String → hp_T → Prop} (hz : Cx z cX9_page 2 "PanelryModel" "page" 1 0 0) (hr : Rt z (some .int) P X 0 0) : Go z 0 0 34 (wp_X9_page_34 P X) := 
  s_iret hz hr rfl rfl dX9_page_34
def wp_X9_page_15 (P : Option Value → hp_T → Prop) (X : String → hp_T → Prop) : KT :=
  i_putI 11 745 (i_aload 0 (i_getI 11 745 (i_ifne (i_pushI 0 (wp_X9_page_34 P X)) (i_aload 0 (i_iload 1 (i_callV 1 11 T_X9_makes noX (wp_X9_page_34 P X)))))))
theorem wx_X9_page_15 (P : Option Value → hp_T → Prop) (X : String → hp_T → Prop) (ls : List (Option Value)) (st : List Value) (h : hp_T) : wp_X9_page_15 P X ls st h = (i_putI 11 745 (i_aload 0 (i_getI 11 745 (i_ifne (i_pushI 0 (wp_X9_page_34 P X)) (i_aload 0 (i_iload 1 (i_callV 1 11 T_X9_makes noX (wp_X9_page_34 P X)))))))) ls st h := rfl
set_option maxRecDepth 20000 in
theorem go_X9_page_15 {z : zT} {P : Option Value → hp_T → Prop} {X : String → hp_T → Prop} (hz : Cx z cX9_page 2 "PanelryModel" "page" 1 0 0) (hr : Rt z (some .int) P X 0 0) : Go z 0 0 15 (wp_X9_page_15 P X) := 
  fp_RX9_111 hz dX9_page_15 (s_aload_n hz rfl dX9_page_18 (fg_RX9_111 hz dX9_page_19 (s_ifne hz (tgt := 33) rfl dX9_page_22 (s_iconst hz rfl dX9_page_33 (go_X9_page_34 hz hr)) (s_aload_n hz rfl dX9_page_25
    (s_iload_n hz rfl dX9_page_26 (s_callV hz ct_X9_makes ⟨w1067, w1070, w33, by decide, by decide, by decide +kernel⟩ w1069 w17 cls10 rfl rfl rfl rfl rfl rfl out_no dX9_page_27 (s_goto hz
    (tgt := 34) rfl dX9_page_30 (go_X9_page_34 hz hr))))))))
def wp_X9_page_0 (P : Option Value → hp_T → Prop) (X : String → hp_T → Prop) : KT :=
  i_aload 0 (i_aload 0 (i_getI 11 704 (i_pushI 8 (i_icne (i_pushI 0 (wp_X9_page_15 P X)) (i_pushI 1 (wp_X9_page_15 P X))))))
theorem wx_X9_page_0 (P : Option Value → hp_T → Prop) (X : String → hp_T → Prop) (ls : List (Option Value)) (st : List Value) (h : hp_T) : wp_X9_page_0 P X ls st h = (i_aload 0 (i_aload 0 (i_getI 11 704 (i_pushI 8 (i_icne (i_pushI 0 (wp_X9_page_15 P X)) (i_pushI 1 (wp_X9_page_15 P X))))))) ls st h := rfl
set_option maxRecDepth 20000 in
theorem go_X9_page_0 {z : zT} {P : Option Value → hp_T → Prop} {X : String → hp_T → Prop} (hz : Cx z cX9_page 2 "PanelryModel" "page" 1 0 0) (hr : Rt z (some .int) P X 0 0) : Go z 0 0 0 (wp_X9_page_0 P X) := 
  s_aload_n hz rfl dX9_page_0 (s_aload_n hz rfl dX9_page_1 (fg_RX9_114 hz dX9_page_2 (s_bipush hz rfl dX9_page_5 (s_icne hz (tgt := 14) rfl dX9_page_7 (s_iconst hz rfl dX9_page_14 (go_X9_page_15 hz hr))
    (s_iconst hz rfl dX9_page_10 (s_goto hz (tgt := 15) rfl dX9_page_11 (go_X9_page_15 hz hr)))))))

def T_X9_page : PT := fun av h P X => match av with
  | [.ref m, .int l] => ((mOK h m ∧ WF (sM h m)) ∧ l &&& 1 = l) ∧ ((sN (sM h m) < 8 → ∀ h', ME h m (su (su (su (sM h m) 1 (sN (sM h m)) l) 5 (sN (sM h m)) (-1)) 0 0 (nI (sN (sM h m) + 1))) 0 h' → P (some (.int (nI (sN (sM h m))))) h') ∧ (¬ sN (sM h m) < 8 → ∀ h', ME h m (sM h m) 1 h' → P (some (.int 0)) h'))
  | _ => False
theorem tx_X9_page (m : Nat) (l : Int32) (h : hp_T) (P : Option Value → hp_T → Prop) (X : String → hp_T → Prop) : T_X9_page [.ref m, .int l] h P X = (((mOK h m ∧ WF (sM h m)) ∧ l &&& 1 = l) ∧ ((sN (sM h m) < 8 → ∀ h', ME h m (su (su (su (sM h m) 1 (sN (sM h m)) l) 5 (sN (sM h m)) (-1)) 0 0 (nI (sN (sM h m) + 1))) 0 h' → P (some (.int (nI (sN (sM h m))))) h') ∧ (¬ sN (sM h m) < 8 → ∀ h', ME h m (sM h m) 1 h' → P (some (.int 0)) h'))) := rfl
set_option maxRecDepth 20000 in
theorem ct_X9_page : CT yX9_page cX9_page 2 (some .int) 1 0 0 T_X9_page := by
  refine ct_ofE (by decide) (fun z av h P X hT hz hr => ?_) (fun av h P X hT => ?_)
  · unfold T_X9_page at hT
    split at hT
    · refine ⟨_, go_X9_page_0 hz hr, ?_⟩
      rename_i m l
      show wp_X9_page_0 P X [some (.ref m), some (.int l)] [] h
      obtain ⟨hk, hp⟩ := hT
      obtain ⟨⟨hm, hW⟩, hl⟩ := hk
      obtain ⟨w1, w2⟩ := hW.1.1
      have hin := fun (v : Int32) (c : pgM (sM h m) v) => pgM_in hW c
      obtain ⟨hp1, hp2⟩ := hp
      by_cases c : sN (sM h m) < 8
      · have c2 : ¬ sN (sM h m) = 8 := by omega
        simp (disch := omega) only [wx_X9_page_34, wx_X9_page_15, wx_X9_page_0, tx_X9_makes, wx_X9_makes_0, ap_pushI, ap_pushN, ap_pushL, ap_iload0, ap_aload0r, ap_aload0n, ap_aload0o, ap_istore0, ap_astore0r, ap_astore0n, ap_astore0o, ap_iinc0, ap_iload1, ap_aload1r, ap_aload1n, ap_aload1o, ap_istore1, ap_astore1r, ap_astore1n, ap_astore1o, ap_iinc1, ap_iload2, ap_aload2r, ap_aload2n, ap_aload2o, ap_istore2, ap_astore2r, ap_astore2n, ap_astore2o, ap_iinc2, ap_iload3, ap_aload3r, ap_aload3n, ap_aload3o, ap_istore3, ap_astore3r, ap_astore3n, ap_astore3o, ap_iinc3, ap_iload4, ap_aload4r, ap_aload4n, ap_aload4o, ap_istore4, ap_astore4r, ap_astore4n, ap_astore4o, ap_iinc4, ap_iload5, ap_aload5r, ap_aload5n, ap_aload5o, ap_istore5, ap_astore5r, ap_astore5n, ap_astore5o, ap_iinc5, ap_iload6, ap_aload6r, ap_aload6n, ap_aload6o, ap_istore6, ap_astore6r, ap_astore6n, ap_astore6o, ap_iinc6, ap_iload7, ap_aload7r, ap_aload7n, ap_aload7o, ap_istore7, ap_astore7r, ap_astore7n, ap_astore7o, ap_iinc7, ap_iload8, ap_aload8r, ap_aload8n, ap_aload8o, ap_istore8, ap_astore8r, ap_astore8n, ap_astore8o, ap_iinc8, ap_iload9, ap_aload9r, ap_aload9n, ap_aload9o, ap_istore9, ap_astore9r, ap_astore9n, ap_astore9o, ap_iinc9, ap_iload10, ap_aload10r, ap_aload10n, ap_aload10o, ap_istore10, ap_astore10r, ap_astore10n, ap_astore10o, ap_iinc10, ap_iload11, ap_aload11r, ap_aload11n, ap_aload11o, ap_istore11, ap_astore11r, ap_astore11n, ap_astore11o, ap_iinc11, ap_iload12, ap_aload12r, ap_aload12n, ap_aload12o, ap_istore12, ap_astore12r, ap_astore12n, ap_astore12o, ap_iinc12, ap_iload13, ap_aload13r, ap_aload13n, ap_aload13o, ap_istore13, ap_astore13r, ap_astore13n, ap_astore13o, ap_iinc13, ap_iload14, ap_aload14r, ap_aload14n, ap_aload14o, ap_istore14, ap_astore14r, ap_astore14n, ap_astore14o, ap_iinc14, ap_iload15, ap_aload15r, ap_aload15n, ap_aload15o, ap_istore15, ap_astore15r, ap_astore15n, ap_astore15o, ap_iinc15, ap_iadd, ap_isub, ap_imul, ap_iand, ap_ior, ap_ixor, ap_ishl, ap_ishr, ap_iushr, ap_idiv, ap_i2l, ap_lcmp, ap_dup, ap_pop, ap_dupx1, ap_dup2, ap_ifeq, ap_ifne, ap_iflt, ap_ifge, ap_ifgt, ap_ifle, ap_iceq, ap_icne, ap_iclt, ap_icge, ap_icgt, ap_icle, ap_ifnullr, ap_ifnulln, ap_ifnullo, ap_getI, ap_getR, ap_putI, ap_putZ, ap_putRr, ap_putRn, ap_putRo, ap_new, ap_newarr, ap_ald, ap_lald, ap_aald, ap_alen, ap_ast, ap_zast, ap_last, ap_aast, ap_castr, ap_gste, ap_objinit, ap_mmax, ap_mmin, ap_dead, ap_iret, ap_zret, ap_aret, ap_vret, ap_throw, ap_callV0, ap_callI0, ap_callS0, ap_callV1, ap_callI1, ap_callS1, ap_callV2, ap_callI2, ap_callS2, ap_callV3, ap_callI3, ap_callS3, ap_callV4, ap_callI4, ap_callS4, ap_callV5, ap_callI5, ap_callS5, ap_callV6, ap_callI6, ap_callS6, ap_callV7, ap_callI7, ap_callS7, ap_callV8, ap_callI8, ap_callS8, ap_callV9, ap_callI9, ap_callS9, pushO, isRf_ref, isRf_null, isRf_rf, isC1_int, isC1_ref, isC1_null, isC1_rf, true_and, and_true, List.length_cons, List.length_nil, Nat.reduceAdd, Nat.reduceLeDiff, hK_sI, hN_sI, hR_sI, hI_sI, hK_sR, hN_sR, hR_sR, hI_sR, kC_2, kC_3, kC_4, kC_5, kC_6, kC_7, kC_8, kC_9, kC_10, kC_11, kC_20, kC_21, kC_22, kC_23, i2_0, i1_1, i0_1, i1_0, bI_and, bI_0, Decidable.not_not, not_false_eq_true, not_true_eq_false, forall_const, false_implies, true_implies, hK_copy, hN_copy, hI_copy, hC_sI, hC_sR, hC_new, hK_new, hN_new, hI_new, hR_new, rf_some, rf_none, ex_ref, ex_null, ex_rf, nref_null, rf_null, Nat.reduceEqDiff, reduceCtorEq, false_and, and_false, if_false, if_true, ne_eq, kO_150, kO_151, kO_152, kO_170, kO_180, kO_190, Value.ref.injEq, exists_eq_left', false_or, ↓reduceIte, and_self, not_true_eq_false, hm, mo_1 hm, mo_5 hm, rs_0, rs_1, rs_5, sq_0, sq_1, sq_5, su_at, implies_true, mo_h hm, pk_in', cl_nI, nI_m8, nI_m12, nI_m20, nI_add, nI_1, nI_pred, mOK_sI, dR_sI, n0le0, n1le0, n2le0, n3le0, n3e0, sx_745, w1, c2, hl, nq8]
        refine hp1 c _ ?_
        exact ⟨by
          (repeat (refine CFr.sI ?_ (by simp only [hK_sI, mo_h hm, mo_1 hm, mo_5 hm]; rfl)))
          exact CFr.rfl, ⟨hm, by simp only [sw_0, sw_1, sw_5, sx_745, dR_sI, if_true]⟩, by simp only [hI_sI, Nat.reduceEqDiff, reduceCtorEq, false_and, and_false, if_false, and_self, if_true]⟩
      · have c2 : sN (sM h m) = 8 := by omega
        simp (disch := omega) only [wx_X9_page_34, wx_X9_page_15, wx_X9_page_0, tx_X9_makes, wx_X9_makes_0, ap_pushI, ap_pushN, ap_pushL, ap_iload0, ap_aload0r, ap_aload0n, ap_aload0o, ap_istore0, ap_astore0r, ap_astore0n, ap_astore0o, ap_iinc0, ap_iload1, ap_aload1r, ap_aload1n, ap_aload1o, ap_istore1, ap_astore1r, ap_astore1n, ap_astore1o, ap_iinc1, ap_iload2, ap_aload2r, ap_aload2n, ap_aload2o, ap_istore2, ap_astore2r, ap_astore2n, ap_astore2o, ap_iinc2, ap_iload3, ap_aload3r, ap_aload3n, ap_aload3o, ap_istore3, ap_astore3r, ap_astore3n, ap_astore3o, ap_iinc3, ap_iload4, ap_aload4r, ap_aload4n, ap_aload4o, ap_istore4, ap_astore4r, ap_astore4n, ap_astore4o, ap_iinc4, ap_iload5, ap_aload5r, ap_aload5n, ap_aload5o, ap_istore5, ap_astore5r, ap_astore5n, ap_astore5o, ap_iinc5, ap_iload6, ap_aload6r, ap_aload6n, ap_aload6o, ap_istore6, ap_astore6r, ap_astore6n, ap_astore6o, ap_iinc6, ap_iload7, ap_aload7r, ap_aload7n, ap_aload7o, ap_istore7, ap_astore7r, ap_astore7n, ap_astore7o, ap_iinc7, ap_iload8, ap_aload8r, ap_aload8n, ap_aload8o, ap_istore8, ap_astore8r, ap_astore8n, ap_astore8o, ap_iinc8, ap_iload9, ap_aload9r, ap_aload9n, ap_aload9o, ap_istore9, ap_astore9r, ap_astore9n, ap_astore9o, ap_iinc9, ap_iload10, ap_aload10r, ap_aload10n, ap_aload10o, ap_istore10, ap_astore10r, ap_astore10n, ap_astore10o, ap_iinc10, ap_iload11, ap_aload11r, ap_aload11n, ap_aload11o, ap_istore11, ap_astore11r, ap_astore11n, ap_astore11o, ap_iinc11, ap_iload12, ap_aload12r, ap_aload12n, ap_aload12o, ap_istore12, ap_astore12r, ap_astore12n, ap_astore12o, ap_iinc12, ap_iload13, ap_aload13r, ap_aload13n, ap_aload13o, ap_istore13, ap_astore13r, ap_astore13n, ap_astore13o, ap_iinc13, ap_iload14, ap_aload14r, ap_aload14n, ap_aload14o, ap_istore14, ap_astore14r, ap_astore14n, ap_astore14o, ap_iinc14, ap_iload15, ap_aload15r, ap_aload15n, ap_aload15o, ap_istore15, ap_astore15r, ap_astore15n, ap_astore15o, ap_iinc15, ap_iadd, ap_isub, ap_imul, ap_iand, ap_ior, ap_ixor, ap_ishl, ap_ishr, ap_iushr, ap_idiv, ap_i2l, ap_lcmp, ap_dup, ap_pop, ap_dupx1, ap_dup2, ap_ifeq, ap_ifne, ap_iflt, ap_ifge, ap_ifgt, ap_ifle, ap_iceq, ap_icne, ap_iclt, ap_icge, ap_icgt, ap_icle, ap_ifnullr, ap_ifnulln, ap_ifnullo, ap_getI, ap_getR, ap_putI, ap_putZ, ap_putRr, ap_putRn, ap_putRo, ap_new, ap_newarr, ap_ald, ap_lald, ap_aald, ap_alen, ap_ast, ap_zast, ap_last, ap_aast, ap_castr, ap_gste, ap_objinit, ap_mmax, ap_mmin, ap_dead, ap_iret, ap_zret, ap_aret, ap_vret, ap_throw, ap_callV0, ap_callI0, ap_callS0, ap_callV1, ap_callI1, ap_callS1, ap_callV2, ap_callI2, ap_callS2, ap_callV3, ap_callI3, ap_callS3, ap_callV4, ap_callI4, ap_callS4, ap_callV5, ap_callI5, ap_callS5, ap_callV6, ap_callI6, ap_callS6, ap_callV7, ap_callI7, ap_callS7, ap_callV8, ap_callI8, ap_callS8, ap_callV9, ap_callI9, ap_callS9, pushO, isRf_ref, isRf_null, isRf_rf, isC1_int, isC1_ref, isC1_null, isC1_rf, true_and, and_true, List.length_cons, List.length_nil, Nat.reduceAdd, Nat.reduceLeDiff, hK_sI, hN_sI, hR_sI, hI_sI, hK_sR, hN_sR, hR_sR, hI_sR, kC_2, kC_3, kC_4, kC_5, kC_6, kC_7, kC_8, kC_9, kC_10, kC_11, kC_20, kC_21, kC_22, kC_23, i2_0, i1_1, i0_1, i1_0, bI_and, bI_0, Decidable.not_not, not_false_eq_true, not_true_eq_false, forall_const, false_implies, true_implies, hK_copy, hN_copy, hI_copy, hC_sI, hC_sR, hC_new, hK_new, hN_new, hI_new, hR_new, rf_some, rf_none, ex_ref, ex_null, ex_rf, nref_null, rf_null, Nat.reduceEqDiff, reduceCtorEq, false_and, and_false, if_false, if_true, ne_eq, kO_150, kO_151, kO_152, kO_170, kO_180, kO_190, Value.ref.injEq, exists_eq_left', false_or, ↓reduceIte, and_self, not_true_eq_false, hm, mo_1 hm, mo_5 hm, rs_0, rs_1, rs_5, sq_0, sq_1, sq_5, su_at, implies_true, mo_h hm, pk_in', cl_nI, nI_m8, nI_m12, nI_m20, nI_add, nI_1, nI_pred, mOK_sI, dR_sI, n0le0, n1le0, n2le0, n3le0, n3e0, sx_745, w1, c2, hl, nq8]
        refine hp2 c _ ?_
        exact ⟨by
          (repeat (refine CFr.sI ?_ (by simp only [hK_sI, mo_h hm]; rfl)))
          exact CFr.rfl, ⟨hm, by simp only [sx_745]⟩, by simp only [hI_sI, Nat.reduceEqDiff, reduceCtorEq, false_and, and_false, if_false, and_self, if_true]⟩
    · exact hT.elim
  · unfold T_X9_page at hT
    split at hT
    · exact ⟨Nat.le_of_ble_eq_true rfl, by simp [isC1_int, isC1_ref, isC1_null, isC1_rf]⟩
    · exact hT.elim
def wp_X9_turn_26 (P : Option Value → hp_T → Prop) (X : String → hp_T → Prop) : KT :=
  i_putI 11 745 (i_aload 0 (i_getI 11 745 (i_ifle (i_aload 0 (i_getR 11 705 (i_iload 1 (i_ald 101 (i_istore 3 (i_aload 0 (i_getR 11 705 (i_iload 1 (i_iload 2 (i_zast 101 (i_iload 3 (i_zret P))))))))))))
    (i_pushI 0 (i_zret P)))))
theorem wx_X9_turn_26 (P : Option Value → hp_T → Prop) (X : String → hp_T → Prop) (ls : List (Option Value)) (st : List Value) (h : hp_T) : wp_X9_turn_26 P X ls st h = (i_putI 11 745 (i_aload 0 (i_getI 11 745 (i_ifle (i_aload 0 (i_getR 11 705 (i_iload 1 (i_ald 101 (i_istore 3 (i_aload 0 (i_getR 11 705 (i_iload 1 (i_iload 2 (i_zast 101 (i_iload 3 (i_zret P))))))))))))
    (i_pushI 0 (i_zret P)))))) ls st h := rfl
set_option maxRecDepth 20000 in
theorem go_X9_turn_26 {z : zT} {P : Option Value → hp_T → Prop} {X : String → hp_T → Prop} (hz : Cx z cX9_turn 4 "PanelryModel" "turn" 2 0 0) (hr : Rt z (some .boolean) P X 0 0) : Go z 0 0 26 (wp_X9_turn_26 P X) := 
  fp_RX9_111 hz dX9_turn_26 (s_aload_n hz rfl dX9_turn_29 (fg_RX9_111 hz dX9_turn_30 (s_ifle hz (tgt := 38) rfl dX9_turn_33 (s_aload_n hz rfl dX9_turn_38 (fg_RX9_7 hz dX9_turn_39 (s_iload_n hz rfl dX9_turn_42
    (s_zald hz rfl rfl rfl dX9_turn_43 (s_istore_n hz rfl rfl dX9_turn_44 (s_aload_n hz rfl dX9_turn_45 (fg_RX9_7 hz dX9_turn_46 (s_iload_n hz rfl dX9_turn_49 (s_iload_n hz rfl dX9_turn_50
    (s_zast hz rfl rfl rfl rfl dX9_turn_51 (s_iload_n hz rfl dX9_turn_52 (s_zret hz hr rfl rfl dX9_turn_53)))))))))))) (s_iconst hz rfl dX9_turn_36 (s_zret hz hr rfl rfl dX9_turn_37)))))
def wp_X9_turn_0 (P : Option Value → hp_T → Prop) (X : String → hp_T → Prop) : KT :=
  i_aload 0 (i_aload 0 (i_iload 1 (i_callV 1 11 T_X9_isPage noX (i_ifne (i_aload 0 (i_iload 1 (i_callV 1 11 T_X9_isPrinted noX (i_ifeq (i_pushI 0 (wp_X9_turn_26 P X)) (i_pushI 2 (wp_X9_turn_26 P X))))))
    (i_pushI 1 (wp_X9_turn_26 P X))))))
theorem wx_X9_turn_0 (P : Option Value → hp_T → Prop) (X : String → hp_T → Prop) (ls : List (Option Value)) (st : List Value) (h : hp_T) : wp_X9_turn_0 P X ls st h = (i_aload 0 (i_aload 0 (i_iload 1 (i_callV 1 11 T_X9_isPage noX (i_ifne (i_aload 0 (i_iload 1 (i_callV 1 11 T_X9_isPrinted noX (i_ifeq (i_pushI 0 (wp_X9_turn_26 P X)) (i_pushI 2 (wp_X9_turn_26 P X))))))
    (i_pushI 1 (wp_X9_turn_26 P X))))))) ls st h := rfl
set_option maxRecDepth 20000 in
theorem go_X9_turn_0 {z : zT} {P : Option Value → hp_T → Prop} {X : String → hp_T → Prop} (hz : Cx z cX9_turn 4 "PanelryModel" "turn" 2 0 0) (hr : Rt z (some .boolean) P X 0 0) : Go z 0 0 0 (wp_X9_turn_0 P X) := 
  s_aload_n hz rfl dX9_turn_0 (s_aload_n hz rfl dX9_turn_1 (s_iload_n hz rfl dX9_turn_2 (s_callV hz ct_X9_isPage ⟨w1075, w1078, w33, by decide, by decide, by decide +kernel⟩ w1077 w18 cls10 rfl rfl rfl rfl rfl rfl out_no dX9_turn_3
    (s_ifne hz (tgt := 13) rfl dX9_turn_6 (s_aload_n hz rfl dX9_turn_13 (s_iload_n hz rfl dX9_turn_14 (s_callV hz ct_X9_isPrinted ⟨w1082, w1085, w33, by decide, by decide, by decide +kernel⟩ w1084 w19 cls10 rfl rfl rfl rfl rfl rfl out_no dX9_turn_15
    (s_ifeq hz (tgt := 25) rfl dX9_turn_18 (s_iconst hz rfl dX9_turn_25 (go_X9_turn_26 hz hr)) (s_iconst hz rfl dX9_turn_21 (s_goto hz (tgt := 26) rfl dX9_turn_22 (go_X9_turn_26 hz hr)))))))
    (s_iconst hz rfl dX9_turn_9 (s_goto hz (tgt := 26) rfl dX9_turn_10 (go_X9_turn_26 hz hr)))))))

def T_X9_turn : PT := fun av h P X => match av with
  | [.ref m, .int v, .int l] => ((mOK h m ∧ WF (sM h m)) ∧ l &&& 1 = l) ∧ ((¬ pgM (sM h m) v → ∀ h', ME h m (sM h m) 1 h' → P (some (.int 0)) h') ∧ (∀ p, p < sN (sM h m) → v = nI p → ¬ sM h m 5 p = -1 → ∀ h', ME h m (sM h m) 2 h' → P (some (.int 0)) h') ∧ (∀ p, p < sN (sM h m) → v = nI p → sM h m 5 p = -1 → ∀ h', ME h m (su (sM h m) 1 p l) 0 h' → P (some (.int (sM h m 1 p))) h'))
  | _ => False
theorem tx_X9_turn (m : Nat) (v : Int32) (l : Int32) (h : hp_T) (P : Option Value → hp_T → Prop) (X : String → hp_T → Prop) : T_X9_turn [.ref m, .int v, .int l] h P X = (((mOK h m ∧ WF (sM h m)) ∧ l &&& 1 = l) ∧ ((¬ pgM (sM h m) v → ∀ h', ME h m (sM h m) 1 h' → P (some (.int 0)) h') ∧ (∀ p, p < sN (sM h m) → v = nI p → ¬ sM h m 5 p = -1 → ∀ h', ME h m (sM h m) 2 h' → P (some (.int 0)) h') ∧ (∀ p, p < sN (sM h m) → v = nI p → sM h m 5 p = -1 → ∀ h', ME h m (su (sM h m) 1 p l) 0 h' → P (some (.int (sM h m 1 p))) h'))) := rfl
set_option maxRecDepth 20000 in
theorem ct_X9_turn : CT yX9_turn cX9_turn 4 (some .boolean) 2 0 0 T_X9_turn := by
  refine ct_ofE (by decide) (fun z av h P X hT hz hr => ?_) (fun av h P X hT => ?_)
  · unfold T_X9_turn at hT
    split at hT
    · refine ⟨_, go_X9_turn_0 hz hr, ?_⟩
      rename_i m v l
      show wp_X9_turn_0 P X [some (.ref m), some (.int v), some (.int l), none] [] h
      obtain ⟨hk, hp⟩ := hT
      obtain ⟨⟨hm, hW⟩, wl⟩ := hk
      obtain ⟨w1, w2⟩ := hW.1.1
      have hin := fun (v : Int32) (c : pgM (sM h m) v) => pgM_in hW c
      obtain ⟨hp1, hp2, hp3⟩ := hp
      by_cases c : pgM (sM h m) v
      · obtain ⟨p, hpN, rfl⟩ := (pgM_iff hW).mp c
        have hp8 : p < 8 := by omega
        have wb : sM h m 1 p &&& 1 = sM h m 1 p := (hW.2.1 p hp8).2.2.1
        by_cases c2 : sM h m 5 p = -1
        · simp (disch := omega) only [wx_X9_turn_26, wx_X9_turn_0, tx_X9_isPage, tx_X9_isPrinted, ap_pushI, ap_pushN, ap_pushL, ap_iload0, ap_aload0r, ap_aload0n, ap_aload0o, ap_istore0, ap_astore0r, ap_astore0n, ap_astore0o, ap_iinc0, ap_iload1, ap_aload1r, ap_aload1n, ap_aload1o, ap_istore1, ap_astore1r, ap_astore1n, ap_astore1o, ap_iinc1, ap_iload2, ap_aload2r, ap_aload2n, ap_aload2o, ap_istore2, ap_astore2r, ap_astore2n, ap_astore2o, ap_iinc2, ap_iload3, ap_aload3r, ap_aload3n, ap_aload3o, ap_istore3, ap_astore3r, ap_astore3n, ap_astore3o, ap_iinc3, ap_iload4, ap_aload4r, ap_aload4n, ap_aload4o, ap_istore4, ap_astore4r, ap_astore4n, ap_astore4o, ap_iinc4, ap_iload5, ap_aload5r, ap_aload5n, ap_aload5o, ap_istore5, ap_astore5r, ap_astore5n, ap_astore5o, ap_iinc5, ap_iload6, ap_aload6r, ap_aload6n, ap_aload6o, ap_istore6, ap_astore6r, ap_astore6n, ap_astore6o, ap_iinc6, ap_iload7, ap_aload7r, ap_aload7n, ap_aload7o, ap_istore7, ap_astore7r, ap_astore7n, ap_astore7o, ap_iinc7, ap_iload8, ap_aload8r, ap_aload8n, ap_aload8o, ap_istore8, ap_astore8r, ap_astore8n, ap_astore8o, ap_iinc8, ap_iload9, ap_aload9r, ap_aload9n, ap_aload9o, ap_istore9, ap_astore9r, ap_astore9n, ap_astore9o, ap_iinc9, ap_iload10, ap_aload10r, ap_aload10n, ap_aload10o, ap_istore10, ap_astore10r, ap_astore10n, ap_astore10o, ap_iinc10, ap_iload11, ap_aload11r, ap_aload11n, ap_aload11o, ap_istore11, ap_astore11r, ap_astore11n, ap_astore11o, ap_iinc11, ap_iload12, ap_aload12r, ap_aload12n, ap_aload12o, ap_istore12, ap_astore12r, ap_astore12n, ap_astore12o, ap_iinc12, ap_iload13, ap_aload13r, ap_aload13n, ap_aload13o, ap_istore13, ap_astore13r, ap_astore13n, ap_astore13o, ap_iinc13, ap_iload14, ap_aload14r, ap_aload14n, ap_aload14o, ap_istore14, ap_astore14r, ap_astore14n, ap_astore14o, ap_iinc14, ap_iload15, ap_aload15r, ap_aload15n, ap_aload15o, ap_istore15, ap_astore15r, ap_astore15n, ap_astore15o, ap_iinc15, ap_iadd, ap_isub, ap_imul, ap_iand, ap_ior, ap_ixor, ap_ishl, ap_ishr, ap_iushr, ap_idiv, ap_i2l, ap_lcmp, ap_dup, ap_pop, ap_dupx1, ap_dup2, ap_ifeq, ap_ifne, ap_iflt, ap_ifge, ap_ifgt, ap_ifle, ap_iceq, ap_icne, ap_iclt, ap_icge, ap_icgt, ap_icle, ap_ifnullr, ap_ifnulln, ap_ifnullo, ap_getI, ap_getR, ap_putI, ap_putZ, ap_putRr, ap_putRn, ap_putRo, ap_new, ap_newarr, ap_ald, ap_lald, ap_aald, ap_alen, ap_ast, ap_zast, ap_last, ap_aast, ap_castr, ap_gste, ap_objinit, ap_mmax, ap_mmin, ap_dead, ap_iret, ap_zret, ap_aret, ap_vret, ap_throw, ap_callV0, ap_callI0, ap_callS0, ap_callV1, ap_callI1, ap_callS1, ap_callV2, ap_callI2, ap_callS2, ap_callV3, ap_callI3, ap_callS3, ap_callV4, ap_callI4, ap_callS4, ap_callV5, ap_callI5, ap_callS5, ap_callV6, ap_callI6, ap_callS6, ap_callV7, ap_callI7, ap_callS7, ap_callV8, ap_callI8, ap_callS8, ap_callV9, ap_callI9, ap_callS9, pushO, isRf_ref, isRf_null, isRf_rf, isC1_int, isC1_ref, isC1_null, isC1_rf, true_and, and_true, List.length_cons, List.length_nil, Nat.reduceAdd, Nat.reduceLeDiff, hK_sI, hN_sI, hR_sI, hI_sI, hK_sR, hN_sR, hR_sR, hI_sR, kC_2, kC_3, kC_4, kC_5, kC_6, kC_7, kC_8, kC_9, kC_10, kC_11, kC_20, kC_21, kC_22, kC_23, i2_0, i1_1, i0_1, i1_0, bI_and, bI_0, Decidable.not_not, not_false_eq_true, not_true_eq_false, forall_const, false_implies, true_implies, hK_copy, hN_copy, hI_copy, hC_sI, hC_sR, hC_new, hK_new, hN_new, hI_new, hR_new, rf_some, rf_none, ex_ref, ex_null, ex_rf, nref_null, rf_null, Nat.reduceEqDiff, reduceCtorEq, false_and, and_false, if_false, if_true, ne_eq, kO_150, kO_151, kO_152, kO_170, kO_180, kO_190, Value.ref.injEq, exists_eq_left', false_or, ↓reduceIte, and_self, not_true_eq_false, hm, mo_1 hm, mo_5 hm, rs_1, rs_5, sq_1, sq_5, su_at, implies_true, mo_h hm, pk_in', cl_nI, nI_m8, nI_m12, nI_m20, nI_add, nI_1, nI_pred, mOK_sI, dR_sI, n0le0, n1le0, n2le0, n3le0, n3e0, sx_745, c, c2, wb, wl]
          refine hp3 p hpN rfl c2 _ ?_
          exact ⟨by
            (repeat (refine CFr.sI ?_ (by simp only [hK_sI, mo_h hm, mo_1 hm]; rfl)))
            exact CFr.rfl, ⟨hm, by simp only [sw_1, sx_745, dR_sI, if_true]⟩, by simp only [hI_sI, Nat.reduceEqDiff, reduceCtorEq, false_and, and_false, if_false, and_self, if_true]⟩
        · simp (disch := omega) only [wx_X9_turn_26, wx_X9_turn_0, tx_X9_isPage, tx_X9_isPrinted, ap_pushI, ap_pushN, ap_pushL, ap_iload0, ap_aload0r, ap_aload0n, ap_aload0o, ap_istore0, ap_astore0r, ap_astore0n, ap_astore0o, ap_iinc0, ap_iload1, ap_aload1r, ap_aload1n, ap_aload1o, ap_istore1, ap_astore1r, ap_astore1n, ap_astore1o, ap_iinc1, ap_iload2, ap_aload2r, ap_aload2n, ap_aload2o, ap_istore2, ap_astore2r, ap_astore2n, ap_astore2o, ap_iinc2, ap_iload3, ap_aload3r, ap_aload3n, ap_aload3o, ap_istore3, ap_astore3r, ap_astore3n, ap_astore3o, ap_iinc3, ap_iload4, ap_aload4r, ap_aload4n, ap_aload4o, ap_istore4, ap_astore4r, ap_astore4n, ap_astore4o, ap_iinc4, ap_iload5, ap_aload5r, ap_aload5n, ap_aload5o, ap_istore5, ap_astore5r, ap_astore5n, ap_astore5o, ap_iinc5, ap_iload6, ap_aload6r, ap_aload6n, ap_aload6o, ap_istore6, ap_astore6r, ap_astore6n, ap_astore6o, ap_iinc6, ap_iload7, ap_aload7r, ap_aload7n, ap_aload7o, ap_istore7, ap_astore7r, ap_astore7n, ap_astore7o, ap_iinc7, ap_iload8, ap_aload8r, ap_aload8n, ap_aload8o, ap_istore8, ap_astore8r, ap_astore8n, ap_astore8o, ap_iinc8, ap_iload9, ap_aload9r, ap_aload9n, ap_aload9o, ap_istore9, ap_astore9r, ap_astore9n, ap_astore9o, ap_iinc9, ap_iload10, ap_aload10r, ap_aload10n, ap_aload10o, ap_istore10, ap_astore10r, ap_astore10n, ap_astore10o, ap_iinc10, ap_iload11, ap_aload11r, ap_aload11n, ap_aload11o, ap_istore11, ap_astore11r, ap_astore11n, ap_astore11o, ap_iinc11, ap_iload12, ap_aload12r, ap_aload12n, ap_aload12o, ap_istore12, ap_astore12r, ap_astore12n, ap_astore12o, ap_iinc12, ap_iload13, ap_aload13r, ap_aload13n, ap_aload13o, ap_istore13, ap_astore13r, ap_astore13n, ap_astore13o, ap_iinc13, ap_iload14, ap_aload14r, ap_aload14n, ap_aload14o, ap_istore14, ap_astore14r, ap_astore14n, ap_astore14o, ap_iinc14, ap_iload15, ap_aload15r, ap_aload15n, ap_aload15o, ap_istore15, ap_astore15r, ap_astore15n, ap_astore15o, ap_iinc15, ap_iadd, ap_isub, ap_imul, ap_iand, ap_ior, ap_ixor, ap_ishl, ap_ishr, ap_iushr, ap_idiv, ap_i2l, ap_lcmp, ap_dup, ap_pop, ap_dupx1, ap_dup2, ap_ifeq, ap_ifne, ap_iflt, ap_ifge, ap_ifgt, ap_ifle, ap_iceq, ap_icne, ap_iclt, ap_icge, ap_icgt, ap_icle, ap_ifnullr, ap_ifnulln, ap_ifnullo, ap_getI, ap_getR, ap_putI, ap_putZ, ap_putRr, ap_putRn, ap_putRo, ap_new, ap_newarr, ap_ald, ap_lald, ap_aald, ap_alen, ap_ast, ap_zast, ap_last, ap_aast, ap_castr, ap_gste, ap_objinit, ap_mmax, ap_mmin, ap_dead, ap_iret, ap_zret, ap_aret, ap_vret, ap_throw, ap_callV0, ap_callI0, ap_callS0, ap_callV1, ap_callI1, ap_callS1, ap_callV2, ap_callI2, ap_callS2, ap_callV3, ap_callI3, ap_callS3, ap_callV4, ap_callI4, ap_callS4, ap_callV5, ap_callI5, ap_callS5, ap_callV6, ap_callI6, ap_callS6, ap_callV7, ap_callI7, ap_callS7, ap_callV8, ap_callI8, ap_callS8, ap_callV9, ap_callI9, ap_callS9, pushO, isRf_ref, isRf_null, isRf_rf, isC1_int, isC1_ref, isC1_null, isC1_rf, true_and, and_true, List.length_cons, List.length_nil, Nat.reduceAdd, Nat.reduceLeDiff, hK_sI, hN_sI, hR_sI, hI_sI, hK_sR, hN_sR, hR_sR, hI_sR, kC_2, kC_3, kC_4, kC_5, kC_6, kC_7, kC_8, kC_9, kC_10, kC_11, kC_20, kC_21, kC_22, kC_23, i2_0, i1_1, i0_1, i1_0, bI_and, bI_0, Decidable.not_not, not_false_eq_true, not_true_eq_false, forall_const, false_implies, true_implies, hK_copy, hN_copy, hI_copy, hC_sI, hC_sR, hC_new, hK_new, hN_new, hI_new, hR_new, rf_some, rf_none, ex_ref, ex_null, ex_rf, nref_null, rf_null, Nat.reduceEqDiff, reduceCtorEq, false_and, and_false, if_false, if_true, ne_eq, kO_150, kO_151, kO_152, kO_170, kO_180, kO_190, Value.ref.injEq, exists_eq_left', false_or, ↓reduceIte, and_self, not_true_eq_false, hm, mo_1 hm, mo_5 hm, rs_1, rs_5, sq_1, sq_5, su_at, implies_true, mo_h hm, pk_in', cl_nI, nI_m8, nI_m12, nI_m20, nI_add, nI_1, nI_pred, mOK_sI, dR_sI, n0le0, n1le0, n2le0, n3le0, n3e0, sx_745, c, c2, wb, wl]
          refine hp2 p hpN rfl c2 _ ?_
          exact ⟨by
            (repeat (refine CFr.sI ?_ (by simp only [hK_sI, mo_h hm]; rfl)))
            exact CFr.rfl, ⟨hm, by simp only [sx_745]⟩, by simp only [hI_sI, Nat.reduceEqDiff, reduceCtorEq, false_and, and_false, if_false, and_self, if_true]⟩
      · simp (disch := omega) only [wx_X9_turn_26, wx_X9_turn_0, tx_X9_isPage, tx_X9_isPrinted, ap_pushI, ap_pushN, ap_pushL, ap_iload0, ap_aload0r, ap_aload0n, ap_aload0o, ap_istore0, ap_astore0r, ap_astore0n, ap_astore0o, ap_iinc0, ap_iload1, ap_aload1r, ap_aload1n, ap_aload1o, ap_istore1, ap_astore1r, ap_astore1n, ap_astore1o, ap_iinc1, ap_iload2, ap_aload2r, ap_aload2n, ap_aload2o, ap_istore2, ap_astore2r, ap_astore2n, ap_astore2o, ap_iinc2, ap_iload3, ap_aload3r, ap_aload3n, ap_aload3o, ap_istore3, ap_astore3r, ap_astore3n, ap_astore3o, ap_iinc3, ap_iload4, ap_aload4r, ap_aload4n, ap_aload4o, ap_istore4, ap_astore4r, ap_astore4n, ap_astore4o, ap_iinc4, ap_iload5, ap_aload5r, ap_aload5n, ap_aload5o, ap_istore5, ap_astore5r, ap_astore5n, ap_astore5o, ap_iinc5, ap_iload6, ap_aload6r, ap_aload6n, ap_aload6o, ap_istore6, ap_astore6r, ap_astore6n, ap_astore6o, ap_iinc6, ap_iload7, ap_aload7r, ap_aload7n, ap_aload7o, ap_istore7, ap_astore7r, ap_astore7n, ap_astore7o, ap_iinc7, ap_iload8, ap_aload8r, ap_aload8n, ap_aload8o, ap_istore8, ap_astore8r, ap_astore8n, ap_astore8o, ap_iinc8, ap_iload9, ap_aload9r, ap_aload9n, ap_aload9o, ap_istore9, ap_astore9r, ap_astore9n, ap_astore9o, ap_iinc9, ap_iload10, ap_aload10r, ap_aload10n, ap_aload10o, ap_istore10, ap_astore10r, ap_astore10n, ap_astore10o, ap_iinc10, ap_iload11, ap_aload11r, ap_aload11n, ap_aload11o, ap_istore11, ap_astore11r, ap_astore11n, ap_astore11o, ap_iinc11, ap_iload12, ap_aload12r, ap_aload12n, ap_aload12o, ap_istore12, ap_astore12r, ap_astore12n, ap_astore12o, ap_iinc12, ap_iload13, ap_aload13r, ap_aload13n, ap_aload13o, ap_istore13, ap_astore13r, ap_astore13n, ap_astore13o, ap_iinc13, ap_iload14, ap_aload14r, ap_aload14n, ap_aload14o, ap_istore14, ap_astore14r, ap_astore14n, ap_astore14o, ap_iinc14, ap_iload15, ap_aload15r, ap_aload15n, ap_aload15o, ap_istore15, ap_astore15r, ap_astore15n, ap_astore15o, ap_iinc15, ap_iadd, ap_isub, ap_imul, ap_iand, ap_ior, ap_ixor, ap_ishl, ap_ishr, ap_iushr, ap_idiv, ap_i2l, ap_lcmp, ap_dup, ap_pop, ap_dupx1, ap_dup2, ap_ifeq, ap_ifne, ap_iflt, ap_ifge, ap_ifgt, ap_ifle, ap_iceq, ap_icne, ap_iclt, ap_icge, ap_icgt, ap_icle, ap_ifnullr, ap_ifnulln, ap_ifnullo, ap_getI, ap_getR, ap_putI, ap_putZ, ap_putRr, ap_putRn, ap_putRo, ap_new, ap_newarr, ap_ald, ap_lald, ap_aald, ap_alen, ap_ast, ap_zast, ap_last, ap_aast, ap_castr, ap_gste, ap_objinit, ap_mmax, ap_mmin, ap_dead, ap_iret, ap_zret, ap_aret, ap_vret, ap_throw, ap_callV0, ap_callI0, ap_callS0, ap_callV1, ap_callI1, ap_callS1, ap_callV2, ap_callI2, ap_callS2, ap_callV3, ap_callI3, ap_callS3, ap_callV4, ap_callI4, ap_callS4, ap_callV5, ap_callI5, ap_callS5, ap_callV6, ap_callI6, ap_callS6, ap_callV7, ap_callI7, ap_callS7, ap_callV8, ap_callI8, ap_callS8, ap_callV9, ap_callI9, ap_callS9, pushO, isRf_ref, isRf_null, isRf_rf, isC1_int, isC1_ref, isC1_null, isC1_rf, true_and, and_true, List.length_cons, List.length_nil, Nat.reduceAdd, Nat.reduceLeDiff, hK_sI, hN_sI, hR_sI, hI_sI, hK_sR, hN_sR, hR_sR, hI_sR, kC_2, kC_3, kC_4, kC_5, kC_6, kC_7, kC_8, kC_9, kC_10, kC_11, kC_20, kC_21, kC_22, kC_23, i2_0, i1_1, i0_1, i1_0, bI_and, bI_0, Decidable.not_not, not_false_eq_true, not_true_eq_false, forall_const, false_implies, true_implies, hK_copy, hN_copy, hI_copy, hC_sI, hC_sR, hC_new, hK_new, hN_new, hI_new, hR_new, rf_some, rf_none, ex_ref, ex_null, ex_rf, nref_null, rf_null, Nat.reduceEqDiff, reduceCtorEq, false_and, and_false, if_false, if_true, ne_eq, kO_150, kO_151, kO_152, kO_170, kO_180, kO_190, Value.ref.injEq, exists_eq_left', false_or, ↓reduceIte, and_self, not_true_eq_false, hm, mo_1 hm, mo_5 hm, rs_1, rs_5, sq_1, sq_5, su_at, implies_true, mo_h hm, pk_in', cl_nI, nI_m8, nI_m12, nI_m20, nI_add, nI_1, nI_pred, mOK_sI, dR_sI, n0le0, n1le0, n2le0, n3le0, n3e0, sx_745, c]
        refine hp1 c _ ?_
        exact ⟨by
          (repeat (refine CFr.sI ?_ (by simp only [hK_sI, mo_h hm]; rfl)))
          exact CFr.rfl, ⟨hm, by simp only [sx_745]⟩, by simp only [hI_sI, Nat.reduceEqDiff, reduceCtorEq, false_and, and_false, if_false, and_self, if_true]⟩
    · exact hT.elim
  · unfold T_X9_turn at hT
    split at hT
    · exact ⟨Nat.le_of_ble_eq_true rfl, by simp [isC1_int, isC1_ref, isC1_null, isC1_rf]⟩
    · exact hT.elim
def wp_X9_figure_15 (P : Option Value → hp_T → Prop) (X : String → hp_T → Prop) : KT :=
  i_putI 11 745 (i_aload 0 (i_getI 11 745 (i_ifle (i_aload 0 (i_dup (i_getI 11 717 (i_pushI 1 (i_iadd (i_putI 11 717 (i_aload 0 (i_getI 11 717 (i_pushI 1 (i_isub (i_iret P))))))))))) (i_pushI 0
    (i_iret P)))))
theorem wx_X9_figure_15 (P : Option Value → hp_T → Prop) (X : String → hp_T → Prop) (ls : List (Option Value)) (st : List Value) (h : hp_T) : wp_X9_figure_15 P X ls st h = (i_putI 11 745 (i_aload 0 (i_getI 11 745 (i_ifle (i_aload 0 (i_dup (i_getI 11 717 (i_pushI 1 (i_iadd (i_putI 11 717 (i_aload 0 (i_getI 11 717 (i_pushI 1 (i_isub (i_iret P))))))))))) (i_pushI 0
    (i_iret P)))))) ls st h := rfl
set_option maxRecDepth 20000 in
theorem go_X9_figure_15 {z : zT} {P : Option Value → hp_T → Prop} {X : String → hp_T → Prop} (hz : Cx z cX9_figure 1 "PanelryModel" "figure" 0 0 0) (hr : Rt z (some .int) P X 0 0) : Go z 0 0 15 (wp_X9_figure_15 P X) := 
  fp_RX9_111 hz dX9_figure_15 (s_aload_n hz rfl dX9_figure_18 (fg_RX9_111 hz dX9_figure_19 (s_ifle hz (tgt := 27) rfl dX9_figure_22 (s_aload_n hz rfl dX9_figure_27 (s_dup hz dX9_figure_28
    (fg_RX9_162 hz dX9_figure_29 (s_iconst hz rfl dX9_figure_32 (s_iadd hz dX9_figure_33 (fp_RX9_162 hz dX9_figure_34 (s_aload_n hz rfl dX9_figure_37 (fg_RX9_162 hz dX9_figure_38 (s_iconst hz rfl dX9_figure_41
    (s_isub hz dX9_figure_42 (s_iret hz hr rfl rfl dX9_figure_43))))))))))) (s_iconst hz rfl dX9_figure_25 (s_iret hz hr rfl rfl dX9_figure_26)))))
def wp_X9_figure_0 (P : Option Value → hp_T → Prop) (X : String → hp_T → Prop) : KT :=
  i_aload 0 (i_aload 0 (i_getI 11 717 (i_pushI 12 (i_icne (i_pushI 0 (wp_X9_figure_15 P X)) (i_pushI 1 (wp_X9_figure_15 P X))))))
theorem wx_X9_figure_0 (P : Option Value → hp_T → Prop) (X : String → hp_T → Prop) (ls : List (Option Value)) (st : List Value) (h : hp_T) : wp_X9_figure_0 P X ls st h = (i_aload 0 (i_aload 0 (i_getI 11 717 (i_pushI 12 (i_icne (i_pushI 0 (wp_X9_figure_15 P X)) (i_pushI 1 (wp_X9_figure_15 P X))))))) ls st h := rfl
set_option maxRecDepth 20000 in
theorem go_X9_figure_0 {z : zT} {P : Option Value → hp_T → Prop} {X : String → hp_T → Prop} (hz : Cx z cX9_figure 1 "PanelryModel" "figure" 0 0 0) (hr : Rt z (some .int) P X 0 0) : Go z 0 0 0 (wp_X9_figure_0 P X) := 
  s_aload_n hz rfl dX9_figure_0 (s_aload_n hz rfl dX9_figure_1 (fg_RX9_162 hz dX9_figure_2 (s_bipush hz rfl dX9_figure_5 (s_icne hz (tgt := 14) rfl dX9_figure_7 (s_iconst hz rfl dX9_figure_14
    (go_X9_figure_15 hz hr)) (s_iconst hz rfl dX9_figure_10 (s_goto hz (tgt := 15) rfl dX9_figure_11 (go_X9_figure_15 hz hr)))))))

def T_X9_figure : PT := fun av h P X => match av with
  | [.ref m] => (mOK h m ∧ WF (sM h m)) ∧ ((sF (sM h m) < 12 → ∀ h', ME h m (su (sM h m) 13 0 (nI (sF (sM h m) + 1))) 0 h' → P (some (.int (nI (sF (sM h m))))) h') ∧ (¬ sF (sM h m) < 12 → ∀ h', ME h m (sM h m) 1 h' → P (some (.int 0)) h'))
  | _ => False
theorem tx_X9_figure (m : Nat) (h : hp_T) (P : Option Value → hp_T → Prop) (X : String → hp_T → Prop) : T_X9_figure [.ref m] h P X = ((mOK h m ∧ WF (sM h m)) ∧ ((sF (sM h m) < 12 → ∀ h', ME h m (su (sM h m) 13 0 (nI (sF (sM h m) + 1))) 0 h' → P (some (.int (nI (sF (sM h m))))) h') ∧ (¬ sF (sM h m) < 12 → ∀ h', ME h m (sM h m) 1 h' → P (some (.int 0)) h'))) := rfl
set_option maxRecDepth 20000 in
theorem ct_X9_figure : CT yX9_figure cX9_figure 1 (some .int) 0 0 0 T_X9_figure := by
  refine ct_ofE (by decide) (fun z av h P X hT hz hr => ?_) (fun av h P X hT => ?_)
  · unfold T_X9_figure at hT
    split at hT
    · refine ⟨_, go_X9_figure_0 hz hr, ?_⟩
      rename_i m
      show wp_X9_figure_0 P X [some (.ref m)] [] h
      obtain ⟨hk, hp⟩ := hT
      obtain ⟨hm, hW⟩ := hk
      obtain ⟨w1, w2⟩ := hW.1.2.1
      obtain ⟨hp1, hp2⟩ := hp
      by_cases c : sF (sM h m) < 12
      · have c2 : ¬ sF (sM h m) = 12 := by omega
        simp (disch := omega) only [wx_X9_figure_15, wx_X9_figure_0, ap_pushI, ap_pushN, ap_pushL, ap_iload0, ap_aload0r, ap_aload0n, ap_aload0o, ap_istore0, ap_astore0r, ap_astore0n, ap_astore0o, ap_iinc0, ap_iload1, ap_aload1r, ap_aload1n, ap_aload1o, ap_istore1, ap_astore1r, ap_astore1n, ap_astore1o, ap_iinc1, ap_iload2, ap_aload2r, ap_aload2n, ap_aload2o, ap_istore2, ap_astore2r, ap_astore2n, ap_astore2o, ap_iinc2, ap_iload3, ap_aload3r, ap_aload3n, ap_aload3o, ap_istore3, ap_astore3r, ap_astore3n, ap_astore3o, ap_iinc3, ap_iload4, ap_aload4r, ap_aload4n, ap_aload4o, ap_istore4, ap_astore4r, ap_astore4n, ap_astore4o, ap_iinc4, ap_iload5, ap_aload5r, ap_aload5n, ap_aload5o, ap_istore5, ap_astore5r, ap_astore5n, ap_astore5o, ap_iinc5, ap_iload6, ap_aload6r, ap_aload6n, ap_aload6o, ap_istore6, ap_astore6r, ap_astore6n, ap_astore6o, ap_iinc6, ap_iload7, ap_aload7r, ap_aload7n, ap_aload7o, ap_istore7, ap_astore7r, ap_astore7n, ap_astore7o, ap_iinc7, ap_iload8, ap_aload8r, ap_aload8n, ap_aload8o, ap_istore8, ap_astore8r, ap_astore8n, ap_astore8o, ap_iinc8, ap_iload9, ap_aload9r, ap_aload9n, ap_aload9o, ap_istore9, ap_astore9r, ap_astore9n, ap_astore9o, ap_iinc9, ap_iload10, ap_aload10r, ap_aload10n, ap_aload10o, ap_istore10, ap_astore10r, ap_astore10n, ap_astore10o, ap_iinc10, ap_iload11, ap_aload11r, ap_aload11n, ap_aload11o, ap_istore11, ap_astore11r, ap_astore11n, ap_astore11o, ap_iinc11, ap_iload12, ap_aload12r, ap_aload12n, ap_aload12o, ap_istore12, ap_astore12r, ap_astore12n, ap_astore12o, ap_iinc12, ap_iload13, ap_aload13r, ap_aload13n, ap_aload13o, ap_istore13, ap_astore13r, ap_astore13n, ap_astore13o, ap_iinc13, ap_iload14, ap_aload14r, ap_aload14n, ap_aload14o, ap_istore14, ap_astore14r, ap_astore14n, ap_astore14o, ap_iinc14, ap_iload15, ap_aload15r, ap_aload15n, ap_aload15o, ap_istore15, ap_astore15r, ap_astore15n, ap_astore15o, ap_iinc15, ap_iadd, ap_isub, ap_imul, ap_iand, ap_ior, ap_ixor, ap_ishl, ap_ishr, ap_iushr, ap_idiv, ap_i2l, ap_lcmp, ap_dup, ap_pop, ap_dupx1, ap_dup2, ap_ifeq, ap_ifne, ap_iflt, ap_ifge, ap_ifgt, ap_ifle, ap_iceq, ap_icne, ap_iclt, ap_icge, ap_icgt, ap_icle, ap_ifnullr, ap_ifnulln, ap_ifnullo, ap_getI, ap_getR, ap_putI, ap_putZ, ap_putRr, ap_putRn, ap_putRo, ap_new, ap_newarr, ap_ald, ap_lald, ap_aald, ap_alen, ap_ast, ap_zast, ap_last, ap_aast, ap_castr, ap_gste, ap_objinit, ap_mmax, ap_mmin, ap_dead, ap_iret, ap_zret, ap_aret, ap_vret, ap_throw, ap_callV0, ap_callI0, ap_callS0, ap_callV1, ap_callI1, ap_callS1, ap_callV2, ap_callI2, ap_callS2, ap_callV3, ap_callI3, ap_callS3, ap_callV4, ap_callI4, ap_callS4, ap_callV5, ap_callI5, ap_callS5, ap_callV6, ap_callI6, ap_callS6, ap_callV7, ap_callI7, ap_callS7, ap_callV8, ap_callI8, ap_callS8, ap_callV9, ap_callI9, ap_callS9, pushO, isRf_ref, isRf_null, isRf_rf, isC1_int, isC1_ref, isC1_null, isC1_rf, true_and, and_true, List.length_cons, List.length_nil, Nat.reduceAdd, Nat.reduceLeDiff, hK_sI, hN_sI, hR_sI, hI_sI, hK_sR, hN_sR, hR_sR, hI_sR, kC_2, kC_3, kC_4, kC_5, kC_6, kC_7, kC_8, kC_9, kC_10, kC_11, kC_20, kC_21, kC_22, kC_23, i2_0, i1_1, i0_1, i1_0, bI_and, bI_0, Decidable.not_not, not_false_eq_true, not_true_eq_false, forall_const, false_implies, true_implies, hK_copy, hN_copy, hI_copy, hC_sI, hC_sR, hC_new, hK_new, hN_new, hI_new, hR_new, rf_some, rf_none, ex_ref, ex_null, ex_rf, nref_null, rf_null, Nat.reduceEqDiff, reduceCtorEq, false_and, and_false, if_false, if_true, ne_eq, kO_150, kO_151, kO_152, kO_170, kO_180, kO_190, Value.ref.injEq, exists_eq_left', false_or, ↓reduceIte, and_self, not_true_eq_false, hm, rs_13, sq_13, su_at, implies_true, mo_h hm, pk_in', cl_nI, nI_m8, nI_m12, nI_m20, nI_add, nI_1, nI_pred, mOK_sI, dR_sI, n0le0, n1le0, n2le0, n3le0, n3e0, sx_745, w1, c2, nq12]
        refine hp1 c _ ?_
        exact ⟨by
          (repeat (refine CFr.sI ?_ (by simp only [hK_sI, mo_h hm]; rfl)))
          exact CFr.rfl, ⟨hm, by simp only [sw_13, sx_745, dR_sI, if_true]⟩, by simp only [hI_sI, Nat.reduceEqDiff, reduceCtorEq, false_and, and_false, if_false, and_self, if_true]⟩
      · have c2 : sF (sM h m) = 12 := by omega
        simp (disch := omega) only [wx_X9_figure_15, wx_X9_figure_0, ap_pushI, ap_pushN, ap_pushL, ap_iload0, ap_aload0r, ap_aload0n, ap_aload0o, ap_istore0, ap_astore0r, ap_astore0n, ap_astore0o, ap_iinc0, ap_iload1, ap_aload1r, ap_aload1n, ap_aload1o, ap_istore1, ap_astore1r, ap_astore1n, ap_astore1o, ap_iinc1, ap_iload2, ap_aload2r, ap_aload2n, ap_aload2o, ap_istore2, ap_astore2r, ap_astore2n, ap_astore2o, ap_iinc2, ap_iload3, ap_aload3r, ap_aload3n, ap_aload3o, ap_istore3, ap_astore3r, ap_astore3n, ap_astore3o, ap_iinc3, ap_iload4, ap_aload4r, ap_aload4n, ap_aload4o, ap_istore4, ap_astore4r, ap_astore4n, ap_astore4o, ap_iinc4, ap_iload5, ap_aload5r, ap_aload5n, ap_aload5o, ap_istore5, ap_astore5r, ap_astore5n, ap_astore5o, ap_iinc5, ap_iload6, ap_aload6r, ap_aload6n, ap_aload6o, ap_istore6, ap_astore6r, ap_astore6n, ap_astore6o, ap_iinc6, ap_iload7, ap_aload7r, ap_aload7n, ap_aload7o, ap_istore7, ap_astore7r, ap_astore7n, ap_astore7o, ap_iinc7, ap_iload8, ap_aload8r, ap_aload8n, ap_aload8o, ap_istore8, ap_astore8r, ap_astore8n, ap_astore8o, ap_iinc8, ap_iload9, ap_aload9r, ap_aload9n, ap_aload9o, ap_istore9, ap_astore9r, ap_astore9n, ap_astore9o, ap_iinc9, ap_iload10, ap_aload10r, ap_aload10n, ap_aload10o, ap_istore10, ap_astore10r, ap_astore10n, ap_astore10o, ap_iinc10, ap_iload11, ap_aload11r, ap_aload11n, ap_aload11o, ap_istore11, ap_astore11r, ap_astore11n, ap_astore11o, ap_iinc11, ap_iload12, ap_aload12r, ap_aload12n, ap_aload12o, ap_istore12, ap_astore12r, ap_astore12n, ap_astore12o, ap_iinc12, ap_iload13, ap_aload13r, ap_aload13n, ap_aload13o, ap_istore13, ap_astore13r, ap_astore13n, ap_astore13o, ap_iinc13, ap_iload14, ap_aload14r, ap_aload14n, ap_aload14o, ap_istore14, ap_astore14r, ap_astore14n, ap_astore14o, ap_iinc14, ap_iload15, ap_aload15r, ap_aload15n, ap_aload15o, ap_istore15, ap_astore15r, ap_astore15n, ap_astore15o, ap_iinc15, ap_iadd, ap_isub, ap_imul, ap_iand, ap_ior, ap_ixor, ap_ishl, ap_ishr, ap_iushr, ap_idiv, ap_i2l, ap_lcmp, ap_dup, ap_pop, ap_dupx1, ap_dup2, ap_ifeq, ap_ifne, ap_iflt, ap_ifge, ap_ifgt, ap_ifle, ap_iceq, ap_icne, ap_iclt, ap_icge, ap_icgt, ap_icle, ap_ifnullr, ap_ifnulln, ap_ifnullo, ap_getI, ap_getR, ap_putI, ap_putZ, ap_putRr, ap_putRn, ap_putRo, ap_new, ap_newarr, ap_ald, ap_lald, ap_aald, ap_alen, ap_ast, ap_zast, ap_last, ap_aast, ap_castr, ap_gste, ap_objinit, ap_mmax, ap_mmin, ap_dead, ap_iret, ap_zret, ap_aret, ap_vret, ap_throw, ap_callV0, ap_callI0, ap_callS0, ap_callV1, ap_callI1, ap_callS1, ap_callV2, ap_callI2, ap_callS2, ap_callV3, ap_callI3, ap_callS3, ap_callV4, ap_callI4, ap_callS4, ap_callV5, ap_callI5, ap_callS5, ap_callV6, ap_callI6, ap_callS6, ap_callV7, ap_callI7, ap_callS7, ap_callV8, ap_callI8, ap_callS8, ap_callV9, ap_callI9, ap_callS9, pushO, isRf_ref, isRf_null, isRf_rf, isC1_int, isC1_ref, isC1_null, isC1_rf, true_and, and_true, List.length_cons, List.length_nil, Nat.reduceAdd, Nat.reduceLeDiff, hK_sI, hN_sI, hR_sI, hI_sI, hK_sR, hN_sR, hR_sR, hI_sR, kC_2, kC_3, kC_4, kC_5, kC_6, kC_7, kC_8, kC_9, kC_10, kC_11, kC_20, kC_21, kC_22, kC_23, i2_0, i1_1, i0_1, i1_0, bI_and, bI_0, Decidable.not_not, not_false_eq_true, not_true_eq_false, forall_const, false_implies, true_implies, hK_copy, hN_copy, hI_copy, hC_sI, hC_sR, hC_new, hK_new, hN_new, hI_new, hR_new, rf_some, rf_none, ex_ref, ex_null, ex_rf, nref_null, rf_null, Nat.reduceEqDiff, reduceCtorEq, false_and, and_false, if_false, if_true, ne_eq, kO_150, kO_151, kO_152, kO_170, kO_180, kO_190, Value.ref.injEq, exists_eq_left', false_or, ↓reduceIte, and_self, not_true_eq_false, hm, rs_13, sq_13, su_at, implies_true, mo_h hm, pk_in', cl_nI, nI_m8, nI_m12, nI_m20, nI_add, nI_1, nI_pred, mOK_sI, dR_sI, n0le0, n1le0, n2le0, n3le0, n3e0, sx_745, w1, c2, nq12]
        refine hp2 c _ ?_
        exact ⟨by
          (repeat (refine CFr.sI ?_ (by simp only [hK_sI, mo_h hm]; rfl)))
          exact CFr.rfl, ⟨hm, by simp only [sx_745]⟩, by simp only [hI_sI, Nat.reduceEqDiff, reduceCtorEq, false_and, and_false, if_false, and_self, if_true]⟩
    · exact hT.elim
  · unfold T_X9_figure at hT
    split at hT
    · exact ⟨Nat.le_of_ble_eq_true rfl, by simp [isC1_int, isC1_ref, isC1_null, isC1_rf]⟩
    · exact hT.elim
def wp_X9_workers_15 (P : Option Value → hp_T → Prop) (X : String → hp_T → Prop) : KT :=
  i_putI 11 745 (i_aload 0 (i_getI 11 745 (i_ifle (i_aload 0 (i_getI 11 737 (i_istore 2 (i_aload 0 (i_iload 1 (i_putI 11 737 (i_iload 2 (i_iret P)))))))) (i_pushI 0 (i_iret P)))))
theorem wx_X9_workers_15 (P : Option Value → hp_T → Prop) (X : String → hp_T → Prop) (ls : List (Option Value)) (st : List Value) (h : hp_T) : wp_X9_workers_15 P X ls st h = (i_putI 11 745 (i_aload 0 (i_getI 11 745 (i_ifle (i_aload 0 (i_getI 11 737 (i_istore 2 (i_aload 0 (i_iload 1 (i_putI 11 737 (i_iload 2 (i_iret P)))))))) (i_pushI 0 (i_iret P)))))) ls st h := rfl
set_option maxRecDepth 20000 in
theorem go_X9_workers_15 {z : zT} {P : Option Value → hp_T → Prop} {X : String → hp_T → Prop} (hz : Cx z cX9_workers 3 "PanelryModel" "workers" 1 0 0) (hr : Rt z (some .int) P X 0 0) : Go z 0 0 15 (wp_X9_workers_15 P X) := 
  fp_RX9_111 hz dX9_workers_15 (s_aload_n hz rfl dX9_workers_18 (fg_RX9_111 hz dX9_workers_19 (s_ifle hz (tgt := 27) rfl dX9_workers_22 (s_aload_n hz rfl dX9_workers_27 (fg_RX9_98 hz dX9_workers_28
    (s_istore_n hz rfl rfl dX9_workers_31 (s_aload_n hz rfl dX9_workers_32 (s_iload_n hz rfl dX9_workers_33 (fp_RX9_98 hz dX9_workers_34 (s_iload_n hz rfl dX9_workers_37 (s_iret hz hr rfl rfl dX9_workers_38))))))))
    (s_iconst hz rfl dX9_workers_25 (s_iret hz hr rfl rfl dX9_workers_26)))))
def wp_X9_workers_0 (P : Option Value → hp_T → Prop) (X : String → hp_T → Prop) : KT :=
  i_aload 0 (i_iload 1 (i_pushI 1 (i_pushI 5 (i_callS 3 T_X9_within noX (i_ifeq (i_pushI 1 (wp_X9_workers_15 P X)) (i_pushI 0 (wp_X9_workers_15 P X)))))))
theorem wx_X9_workers_0 (P : Option Value → hp_T → Prop) (X : String → hp_T → Prop) (ls : List (Option Value)) (st : List Value) (h : hp_T) : wp_X9_workers_0 P X ls st h = (i_aload 0 (i_iload 1 (i_pushI 1 (i_pushI 5 (i_callS 3 T_X9_within noX (i_ifeq (i_pushI 1 (wp_X9_workers_15 P X)) (i_pushI 0 (wp_X9_workers_15 P X)))))))) ls st h := rfl
set_option maxRecDepth 20000 in
theorem go_X9_workers_0 {z : zT} {P : Option Value → hp_T → Prop} {X : String → hp_T → Prop} (hz : Cx z cX9_workers 3 "PanelryModel" "workers" 1 0 0) (hr : Rt z (some .int) P X 0 0) : Go z 0 0 0 (wp_X9_workers_0 P X) := 
  s_aload_n hz rfl dX9_workers_0 (s_iload_n hz rfl dX9_workers_1 (s_iconst hz rfl dX9_workers_2 (s_iconst hz rfl dX9_workers_3 (s_callS hz ct_X9_within ⟨w1079, w1081, w33, by decide, by decide, by decide +kernel⟩ w1080 rfl rfl rfl rfl out_no dX9_workers_4
    (s_ifeq hz (tgt := 14) rfl dX9_workers_7 (s_iconst hz rfl dX9_workers_14 (go_X9_workers_15 hz hr)) (s_iconst hz rfl dX9_workers_10 (s_goto hz (tgt := 15) rfl dX9_workers_11 (go_X9_workers_15 hz hr))))))))

def T_X9_workers : PT := fun av h P X => match av with
  | [.ref m, .int v] => (mOK h m ∧ WF (sM h m)) ∧ ((1 ≤ v ∧ v ≤ 5 → ∀ h', ME h m (su (sM h m) 33 0 v) 0 h' → P (some (.int (sM h m 33 0))) h') ∧ (¬ (1 ≤ v ∧ v ≤ 5) → ∀ h', ME h m (sM h m) 1 h' → P (some (.int 0)) h'))
  | _ => False
theorem tx_X9_workers (m : Nat) (v : Int32) (h : hp_T) (P : Option Value → hp_T → Prop) (X : String → hp_T → Prop) : T_X9_workers [.ref m, .int v] h P X = ((mOK h m ∧ WF (sM h m)) ∧ ((1 ≤ v ∧ v ≤ 5 → ∀ h', ME h m (su (sM h m) 33 0 v) 0 h' → P (some (.int (sM h m 33 0))) h') ∧ (¬ (1 ≤ v ∧ v ≤ 5) → ∀ h', ME h m (sM h m) 1 h' → P (some (.int 0)) h'))) := rfl
set_option maxRecDepth 20000 in
theorem ct_X9_workers : CT yX9_workers cX9_workers 3 (some .int) 1 0 0 T_X9_workers := by
  refine ct_ofE (by decide) (fun z av h P X hT hz hr => ?_) (fun av h P X hT => ?_)
  · unfold T_X9_workers at hT
    split at hT
    · refine ⟨_, go_X9_workers_0 hz hr, ?_⟩
      rename_i m v
      show wp_X9_workers_0 P X [some (.ref m), some (.int v), none] [] h
      obtain ⟨hk, hp⟩ := hT
      obtain ⟨hm, hW⟩ := hk
      obtain ⟨hp1, hp2⟩ := hp
      by_cases c : 1 ≤ v ∧ v ≤ 5
      · simp (disch := omega) only [wx_X9_workers_15, wx_X9_workers_0, tx_X9_within, ap_pushI, ap_pushN, ap_pushL, ap_iload0, ap_aload0r, ap_aload0n, ap_aload0o, ap_istore0, ap_astore0r, ap_astore0n, ap_astore0o, ap_iinc0, ap_iload1, ap_aload1r, ap_aload1n, ap_aload1o, ap_istore1, ap_astore1r, ap_astore1n, ap_astore1o, ap_iinc1, ap_iload2, ap_aload2r, ap_aload2n, ap_aload2o, ap_istore2, ap_astore2r, ap_astore2n, ap_astore2o, ap_iinc2, ap_iload3, ap_aload3r, ap_aload3n, ap_aload3o, ap_istore3, ap_astore3r, ap_astore3n, ap_astore3o, ap_iinc3, ap_iload4, ap_aload4r, ap_aload4n, ap_aload4o, ap_istore4, ap_astore4r, ap_astore4n, ap_astore4o, ap_iinc4, ap_iload5, ap_aload5r, ap_aload5n, ap_aload5o, ap_istore5, ap_astore5r, ap_astore5n, ap_astore5o, ap_iinc5, ap_iload6, ap_aload6r, ap_aload6n, ap_aload6o, ap_istore6, ap_astore6r, ap_astore6n, ap_astore6o, ap_iinc6, ap_iload7, ap_aload7r, ap_aload7n, ap_aload7o, ap_istore7, ap_astore7r, ap_astore7n, ap_astore7o, ap_iinc7, ap_iload8, ap_aload8r, ap_aload8n, ap_aload8o, ap_istore8, ap_astore8r, ap_astore8n, ap_astore8o, ap_iinc8, ap_iload9, ap_aload9r, ap_aload9n, ap_aload9o, ap_istore9, ap_astore9r, ap_astore9n, ap_astore9o, ap_iinc9, ap_iload10, ap_aload10r, ap_aload10n, ap_aload10o, ap_istore10, ap_astore10r, ap_astore10n, ap_astore10o, ap_iinc10, ap_iload11, ap_aload11r, ap_aload11n, ap_aload11o, ap_istore11, ap_astore11r, ap_astore11n, ap_astore11o, ap_iinc11, ap_iload12, ap_aload12r, ap_aload12n, ap_aload12o, ap_istore12, ap_astore12r, ap_astore12n, ap_astore12o, ap_iinc12, ap_iload13, ap_aload13r, ap_aload13n, ap_aload13o, ap_istore13, ap_astore13r, ap_astore13n, ap_astore13o, ap_iinc13, ap_iload14, ap_aload14r, ap_aload14n, ap_aload14o, ap_istore14, ap_astore14r, ap_astore14n, ap_astore14o, ap_iinc14, ap_iload15, ap_aload15r, ap_aload15n, ap_aload15o, ap_istore15, ap_astore15r, ap_astore15n, ap_astore15o, ap_iinc15, ap_iadd, ap_isub, ap_imul, ap_iand, ap_ior, ap_ixor, ap_ishl, ap_ishr, ap_iushr, ap_idiv, ap_i2l, ap_lcmp, ap_dup, ap_pop, ap_dupx1, ap_dup2, ap_ifeq, ap_ifne, ap_iflt, ap_ifge, ap_ifgt, ap_ifle, ap_iceq, ap_icne, ap_iclt, ap_icge, ap_icgt, ap_icle, ap_ifnullr, ap_ifnulln, ap_ifnullo, ap_getI, ap_getR, ap_putI, ap_putZ, ap_putRr, ap_putRn, ap_putRo, ap_new, ap_newarr, ap_ald, ap_lald, ap_aald, ap_alen, ap_ast, ap_zast, ap_last, ap_aast, ap_castr, ap_gste, ap_objinit, ap_mmax, ap_mmin, ap_dead, ap_iret, ap_zret, ap_aret, ap_vret, ap_throw, ap_callV0, ap_callI0, ap_callS0, ap_callV1, ap_callI1, ap_callS1, ap_callV2, ap_callI2, ap_callS2, ap_callV3, ap_callI3, ap_callS3, ap_callV4, ap_callI4, ap_callS4, ap_callV5, ap_callI5, ap_callS5, ap_callV6, ap_callI6, ap_callS6, ap_callV7, ap_callI7, ap_callS7, ap_callV8, ap_callI8, ap_callS8, ap_callV9, ap_callI9, ap_callS9, pushO, isRf_ref, isRf_null, isRf_rf, isC1_int, isC1_ref, isC1_null, isC1_rf, true_and, and_true, List.length_cons, List.length_nil, Nat.reduceAdd, Nat.reduceLeDiff, hK_sI, hN_sI, hR_sI, hI_sI, hK_sR, hN_sR, hR_sR, hI_sR, kC_2, kC_3, kC_4, kC_5, kC_6, kC_7, kC_8, kC_9, kC_10, kC_11, kC_20, kC_21, kC_22, kC_23, i2_0, i1_1, i0_1, i1_0, bI_and, bI_0, Decidable.not_not, not_false_eq_true, not_true_eq_false, forall_const, false_implies, true_implies, hK_copy, hN_copy, hI_copy, hC_sI, hC_sR, hC_new, hK_new, hN_new, hI_new, hR_new, rf_some, rf_none, ex_ref, ex_null, ex_rf, nref_null, rf_null, Nat.reduceEqDiff, reduceCtorEq, false_and, and_false, if_false, if_true, ne_eq, kO_150, kO_151, kO_152, kO_170, kO_180, kO_190, Value.ref.injEq, exists_eq_left', false_or, ↓reduceIte, and_self, not_true_eq_false, hm, rs_33, sq_33, su_at, implies_true, mo_h hm, pk_in', cl_nI, nI_m8, nI_m12, nI_m20, nI_add, nI_1, nI_pred, mOK_sI, dR_sI, n0le0, n1le0, n2le0, n3le0, n3e0, sx_745, c]
        refine hp1 c _ ?_
        exact ⟨by
          (repeat (refine CFr.sI ?_ (by simp only [hK_sI, mo_h hm]; rfl)))
          exact CFr.rfl, ⟨hm, by simp only [sw_33, sx_745, dR_sI, if_true]⟩, by simp only [hI_sI, Nat.reduceEqDiff, reduceCtorEq, false_and, and_false, if_false, and_self, if_true]⟩
      · simp (disch := omega) only [wx_X9_workers_15, wx_X9_workers_0, tx_X9_within, ap_pushI, ap_pushN, ap_pushL, ap_iload0, ap_aload0r, ap_aload0n, ap_aload0o, ap_istore0, ap_astore0r, ap_astore0n, ap_astore0o, ap_iinc0, ap_iload1, ap_aload1r, ap_aload1n, ap_aload1o, ap_istore1, ap_astore1r, ap_astore1n, ap_astore1o, ap_iinc1, ap_iload2, ap_aload2r, ap_aload2n, ap_aload2o, ap_istore2, ap_astore2r, ap_astore2n, ap_astore2o, ap_iinc2, ap_iload3, ap_aload3r, ap_aload3n, ap_aload3o, ap_istore3, ap_astore3r, ap_astore3n, ap_astore3o, ap_iinc3, ap_iload4, ap_aload4r, ap_aload4n, ap_aload4o, ap_istore4, ap_astore4r, ap_astore4n, ap_astore4o, ap_iinc4, ap_iload5, ap_aload5r, ap_aload5n, ap_aload5o, ap_istore5, ap_astore5r, ap_astore5n, ap_astore5o, ap_iinc5, ap_iload6, ap_aload6r, ap_aload6n, ap_aload6o, ap_istore6, ap_astore6r, ap_astore6n, ap_astore6o, ap_iinc6, ap_iload7, ap_aload7r, ap_aload7n, ap_aload7o, ap_istore7, ap_astore7r, ap_astore7n, ap_astore7o, ap_iinc7, ap_iload8, ap_aload8r, ap_aload8n, ap_aload8o, ap_istore8, ap_astore8r, ap_astore8n, ap_astore8o, ap_iinc8, ap_iload9, ap_aload9r, ap_aload9n, ap_aload9o, ap_istore9, ap_astore9r, ap_astore9n, ap_astore9o, ap_iinc9, ap_iload10, ap_aload10r, ap_aload10n, ap_aload10o, ap_istore10, ap_astore10r, ap_astore10n, ap_astore10o, ap_iinc10, ap_iload11, ap_aload11r, ap_aload11n, ap_aload11o, ap_istore11, ap_astore11r, ap_astore11n, ap_astore11o, ap_iinc11, ap_iload12, ap_aload12r, ap_aload12n, ap_aload12o, ap_istore12, ap_astore12r, ap_astore12n, ap_astore12o, ap_iinc12, ap_iload13, ap_aload13r, ap_aload13n, ap_aload13o, ap_istore13, ap_astore13r, ap_astore13n, ap_astore13o, ap_iinc13, ap_iload14, ap_aload14r, ap_aload14n, ap_aload14o, ap_istore14, ap_astore14r, ap_astore14n, ap_astore14o, ap_iinc14, ap_iload15, ap_aload15r, ap_aload15n, ap_aload15o, ap_istore15, ap_astore15r, ap_astore15n, ap_astore15o, ap_iinc15, ap_iadd, ap_isub, ap_imul, ap_iand, ap_ior, ap_ixor, ap_ishl, ap_ishr, ap_iushr, ap_idiv, ap_i2l, ap_lcmp, ap_dup, ap_pop, ap_dupx1, ap_dup2, ap_ifeq, ap_ifne, ap_iflt, ap_ifge, ap_ifgt, ap_ifle, ap_iceq, ap_icne, ap_iclt, ap_icge, ap_icgt, ap_icle, ap_ifnullr, ap_ifnulln, ap_ifnullo, ap_getI, ap_getR, ap_putI, ap_putZ, ap_putRr, ap_putRn, ap_putRo, ap_new, ap_newarr, ap_ald, ap_lald, ap_aald, ap_alen, ap_ast, ap_zast, ap_last, ap_aast, ap_castr, ap_gste, ap_objinit, ap_mmax, ap_mmin, ap_dead, ap_iret, ap_zret, ap_aret, ap_vret, ap_throw, ap_callV0, ap_callI0, ap_callS0, ap_callV1, ap_callI1, ap_callS1, ap_callV2, ap_callI2, ap_callS2, ap_callV3, ap_callI3, ap_callS3, ap_callV4, ap_callI4, ap_callS4, ap_callV5, ap_callI5, ap_callS5, ap_callV6, ap_callI6, ap_callS6, ap_callV7, ap_callI7, ap_callS7, ap_callV8, ap_callI8, ap_callS8, ap_callV9, ap_callI9, ap_callS9, pushO, isRf_ref, isRf_null, isRf_rf, isC1_int, isC1_ref, isC1_null, isC1_rf, true_and, and_true, List.length_cons, List.length_nil, Nat.reduceAdd, Nat.reduceLeDiff, hK_sI, hN_sI, hR_sI, hI_sI, hK_sR, hN_sR, hR_sR, hI_sR, kC_2, kC_3, kC_4, kC_5, kC_6, kC_7, kC_8, kC_9, kC_10, kC_11, kC_20, kC_21, kC_22, kC_23, i2_0, i1_1, i0_1, i1_0, bI_and, bI_0, Decidable.not_not, not_false_eq_true, not_true_eq_false, forall_const, false_implies, true_implies, hK_copy, hN_copy, hI_copy, hC_sI, hC_sR, hC_new, hK_new, hN_new, hI_new, hR_new, rf_some, rf_none, ex_ref, ex_null, ex_rf, nref_null, rf_null, Nat.reduceEqDiff, reduceCtorEq, false_and, and_false, if_false, if_true, ne_eq, kO_150, kO_151, kO_152, kO_170, kO_180, kO_190, Value.ref.injEq, exists_eq_left', false_or, ↓reduceIte, and_self, not_true_eq_false, hm, rs_33, sq_33, su_at, implies_true, mo_h hm, pk_in', cl_nI, nI_m8, nI_m12, nI_m20, nI_add, nI_1, nI_pred, mOK_sI, dR_sI, n0le0, n1le0, n2le0, n3le0, n3e0, sx_745, c]
        refine hp2 c _ ?_
        exact ⟨by
          (repeat (refine CFr.sI ?_ (by simp only [hK_sI, mo_h hm]; rfl)))
          exact CFr.rfl, ⟨hm, by simp only [sx_745]⟩, by simp only [hI_sI, Nat.reduceEqDiff, reduceCtorEq, false_and, and_false, if_false, and_self, if_true]⟩
    · exact hT.elim
  · unfold T_X9_workers at hT
    split at hT
    · exact ⟨Nat.le_of_ble_eq_true rfl, by simp [isC1_int, isC1_ref, isC1_null, isC1_rf]⟩
    · exact hT.elim
def wp_X9_stage_34 (P : Option Value → hp_T → Prop) (X : String → hp_T → Prop) : KT :=
  i_iret P
theorem wx_X9_stage_34 (P : Option Value → hp_T → Prop) (X : String → hp_T → Prop) (ls : List (Option Value)) (st : List Value) (h : hp_T) : wp_X9_stage_34 P X ls st h = (i_iret P) ls st h := rfl
set_option maxRecDepth 20000 in
theorem go_X9_stage_34 {z : zT} {P : Option Value → hp_T → Prop} {X : String → hp_T → Prop} (hz : Cx z cX9_stage 2 "PanelryModel" "stage" 2 0 0) (hr : Rt z (some .int) P X 0 0) : Go z 0 0 34 (wp_X9_stage_34 P X) := 
  s_iret hz hr rfl rfl dX9_stage_34
def wp_X9_stage_14 (P : Option Value → hp_T → Prop) (X : String → hp_T → Prop) : KT :=
  i_putI 11 745 (i_aload 0 (i_getI 11 745 (i_ifne (i_pushI 0 (wp_X9_stage_34 P X)) (i_aload 0 (i_getR 11 708 (i_iload 1 (i_ald 104 (wp_X9_stage_34 P X))))))))
theorem wx_X9_stage_14 (P : Option Value → hp_T → Prop) (X : String → hp_T → Prop) (ls : List (Option Value)) (st : List Value) (h : hp_T) : wp_X9_stage_14 P X ls st h = (i_putI 11 745 (i_aload 0 (i_getI 11 745 (i_ifne (i_pushI 0 (wp_X9_stage_34 P X)) (i_aload 0 (i_getR 11 708 (i_iload 1 (i_ald 104 (wp_X9_stage_34 P X))))))))) ls st h := rfl
set_option maxRecDepth 20000 in
theorem go_X9_stage_14 {z : zT} {P : Option Value → hp_T → Prop} {X : String → hp_T → Prop} (hz : Cx z cX9_stage 2 "PanelryModel" "stage" 2 0 0) (hr : Rt z (some .int) P X 0 0) : Go z 0 0 14 (wp_X9_stage_14 P X) := 
  fp_RX9_111 hz dX9_stage_14 (s_aload_n hz rfl dX9_stage_17 (fg_RX9_111 hz dX9_stage_18 (s_ifne hz (tgt := 33) rfl dX9_stage_21 (s_iconst hz rfl dX9_stage_33 (go_X9_stage_34 hz hr)) (s_aload_n hz rfl dX9_stage_24
    (fg_RX9_20 hz dX9_stage_25 (s_iload_n hz rfl dX9_stage_28 (s_iald hz rfl rfl rfl dX9_stage_29 (s_goto hz (tgt := 34) rfl dX9_stage_30 (go_X9_stage_34 hz hr)))))))))
def wp_X9_stage_0 (P : Option Value → hp_T → Prop) (X : String → hp_T → Prop) : KT :=
  i_aload 0 (i_aload 0 (i_iload 1 (i_callV 1 11 T_X9_isPage noX (i_ifeq (i_pushI 1 (wp_X9_stage_14 P X)) (i_pushI 0 (wp_X9_stage_14 P X))))))
theorem wx_X9_stage_0 (P : Option Value → hp_T → Prop) (X : String → hp_T → Prop) (ls : List (Option Value)) (st : List Value) (h : hp_T) : wp_X9_stage_0 P X ls st h = (i_aload 0 (i_aload 0 (i_iload 1 (i_callV 1 11 T_X9_isPage noX (i_ifeq (i_pushI 1 (wp_X9_stage_14 P X)) (i_pushI 0 (wp_X9_stage_14 P X))))))) ls st h := rfl
set_option maxRecDepth 20000 in
theorem go_X9_stage_0 {z : zT} {P : Option Value → hp_T → Prop} {X : String → hp_T → Prop} (hz : Cx z cX9_stage 2 "PanelryModel" "stage" 2 0 0) (hr : Rt z (some .int) P X 0 0) : Go z 0 0 0 (wp_X9_stage_0 P X) := 
  s_aload_n hz rfl dX9_stage_0 (s_aload_n hz rfl dX9_stage_1 (s_iload_n hz rfl dX9_stage_2 (s_callV hz ct_X9_isPage ⟨w1075, w1078, w33, by decide, by decide, by decide +kernel⟩ w1077 w18 cls10 rfl rfl rfl rfl rfl rfl out_no dX9_stage_3
    (s_ifeq hz (tgt := 13) rfl dX9_stage_6 (s_iconst hz rfl dX9_stage_13 (go_X9_stage_14 hz hr)) (s_iconst hz rfl dX9_stage_9 (s_goto hz (tgt := 14) rfl dX9_stage_10 (go_X9_stage_14 hz hr)))))))

def T_X9_stage : PT := fun av h P X => match av with
  | [.ref m, .int v] => (mOK h m ∧ WF (sM h m)) ∧ ((¬ pgM (sM h m) v → ∀ h', ME h m (sM h m) 1 h' → P (some (.int 0)) h') ∧ (∀ p, p < sN (sM h m) → v = nI p → ∀ h', ME h m (sM h m) 0 h' → P (some (.int (sM h m 4 p))) h'))
  | _ => False
theorem tx_X9_stage (m : Nat) (v : Int32) (h : hp_T) (P : Option Value → hp_T → Prop) (X : String → hp_T → Prop) : T_X9_stage [.ref m, .int v] h P X = ((mOK h m ∧ WF (sM h m)) ∧ ((¬ pgM (sM h m) v → ∀ h', ME h m (sM h m) 1 h' → P (some (.int 0)) h') ∧ (∀ p, p < sN (sM h m) → v = nI p → ∀ h', ME h m (sM h m) 0 h' → P (some (.int (sM h m 4 p))) h'))) := rfl
set_option maxRecDepth 20000 in
theorem ct_X9_stage : CT yX9_stage cX9_stage 2 (some .int) 2 0 0 T_X9_stage := by
  refine ct_ofE (by decide) (fun z av h P X hT hz hr => ?_) (fun av h P X hT => ?_)
  · unfold T_X9_stage at hT
    split at hT
    · refine ⟨_, go_X9_stage_0 hz hr, ?_⟩
      rename_i m v
      show wp_X9_stage_0 P X [some (.ref m), some (.int v)] [] h
      obtain ⟨hk, hp⟩ := hT
      obtain ⟨hm, hW⟩ := hk
      obtain ⟨w1, w2⟩ := hW.1.1
      have hin := fun (v : Int32) (c : pgM (sM h m) v) => pgM_in hW c
      obtain ⟨hp1, hp2⟩ := hp
      by_cases c : pgM (sM h m) v
      · obtain ⟨p, hpN, rfl⟩ := (pgM_iff hW).mp c
        have hp8 : p < 8 := by omega
        simp (disch := omega) only [wx_X9_stage_34, wx_X9_stage_14, wx_X9_stage_0, tx_X9_isPage, ap_pushI, ap_pushN, ap_pushL, ap_iload0, ap_aload0r, ap_aload0n, ap_aload0o, ap_istore0, ap_astore0r, ap_astore0n, ap_astore0o, ap_iinc0, ap_iload1, ap_aload1r, ap_aload1n, ap_aload1o, ap_istore1, ap_astore1r, ap_astore1n, ap_astore1o, ap_iinc1, ap_iload2, ap_aload2r, ap_aload2n, ap_aload2o, ap_istore2, ap_astore2r, ap_astore2n, ap_astore2o, ap_iinc2, ap_iload3, ap_aload3r, ap_aload3n, ap_aload3o, ap_istore3, ap_astore3r, ap_astore3n, ap_astore3o, ap_iinc3, ap_iload4, ap_aload4r, ap_aload4n, ap_aload4o, ap_istore4, ap_astore4r, ap_astore4n, ap_astore4o, ap_iinc4, ap_iload5, ap_aload5r, ap_aload5n, ap_aload5o, ap_istore5, ap_astore5r, ap_astore5n, ap_astore5o, ap_iinc5, ap_iload6, ap_aload6r, ap_aload6n, ap_aload6o, ap_istore6, ap_astore6r, ap_astore6n, ap_astore6o, ap_iinc6, ap_iload7, ap_aload7r, ap_aload7n, ap_aload7o, ap_istore7, ap_astore7r, ap_astore7n, ap_astore7o, ap_iinc7, ap_iload8, ap_aload8r, ap_aload8n, ap_aload8o, ap_istore8, ap_astore8r, ap_astore8n, ap_astore8o, ap_iinc8, ap_iload9, ap_aload9r, ap_aload9n, ap_aload9o, ap_istore9, ap_astore9r, ap_astore9n, ap_astore9o, ap_iinc9, ap_iload10, ap_aload10r, ap_aload10n, ap_aload10o, ap_istore10, ap_astore10r, ap_astore10n, ap_astore10o, ap_iinc10, ap_iload11, ap_aload11r, ap_aload11n, ap_aload11o, ap_istore11, ap_astore11r, ap_astore11n, ap_astore11o, ap_iinc11, ap_iload12, ap_aload12r, ap_aload12n, ap_aload12o, ap_istore12, ap_astore12r, ap_astore12n, ap_astore12o, ap_iinc12, ap_iload13, ap_aload13r, ap_aload13n, ap_aload13o, ap_istore13, ap_astore13r, ap_astore13n, ap_astore13o, ap_iinc13, ap_iload14, ap_aload14r, ap_aload14n, ap_aload14o, ap_istore14, ap_astore14r, ap_astore14n, ap_astore14o, ap_iinc14, ap_iload15, ap_aload15r, ap_aload15n, ap_aload15o, ap_istore15, ap_astore15r, ap_astore15n, ap_astore15o, ap_iinc15, ap_iadd, ap_isub, ap_imul, ap_iand, ap_ior, ap_ixor, ap_ishl, ap_ishr, ap_iushr, ap_idiv, ap_i2l, ap_lcmp, ap_dup, ap_pop, ap_dupx1, ap_dup2, ap_ifeq, ap_ifne, ap_iflt, ap_ifge, ap_ifgt, ap_ifle, ap_iceq, ap_icne, ap_iclt, ap_icge, ap_icgt, ap_icle, ap_ifnullr, ap_ifnulln, ap_ifnullo, ap_getI, ap_getR, ap_putI, ap_putZ, ap_putRr, ap_putRn, ap_putRo, ap_new, ap_newarr, ap_ald, ap_lald, ap_aald, ap_alen, ap_ast, ap_zast, ap_last, ap_aast, ap_castr, ap_gste, ap_objinit, ap_mmax, ap_mmin, ap_dead, ap_iret, ap_zret, ap_aret, ap_vret, ap_throw, ap_callV0, ap_callI0, ap_callS0, ap_callV1, ap_callI1, ap_callS1, ap_callV2, ap_callI2, ap_callS2, ap_callV3, ap_callI3, ap_callS3, ap_callV4, ap_callI4, ap_callS4, ap_callV5, ap_callI5, ap_callS5, ap_callV6, ap_callI6, ap_callS6, ap_callV7, ap_callI7, ap_callS7, ap_callV8, ap_callI8, ap_callS8, ap_callV9, ap_callI9, ap_callS9, pushO, isRf_ref, isRf_null, isRf_rf, isC1_int, isC1_ref, isC1_null, isC1_rf, true_and, and_true, List.length_cons, List.length_nil, Nat.reduceAdd, Nat.reduceLeDiff, hK_sI, hN_sI, hR_sI, hI_sI, hK_sR, hN_sR, hR_sR, hI_sR, kC_2, kC_3, kC_4, kC_5, kC_6, kC_7, kC_8, kC_9, kC_10, kC_11, kC_20, kC_21, kC_22, kC_23, i2_0, i1_1, i0_1, i1_0, bI_and, bI_0, Decidable.not_not, not_false_eq_true, not_true_eq_false, forall_const, false_implies, true_implies, hK_copy, hN_copy, hI_copy, hC_sI, hC_sR, hC_new, hK_new, hN_new, hI_new, hR_new, rf_some, rf_none, ex_ref, ex_null, ex_rf, nref_null, rf_null, Nat.reduceEqDiff, reduceCtorEq, false_and, and_false, if_false, if_true, ne_eq, kO_150, kO_151, kO_152, kO_170, kO_180, kO_190, Value.ref.injEq, exists_eq_left', false_or, ↓reduceIte, and_self, not_true_eq_false, hm, mo_4 hm, rs_4, sq_4, su_at, implies_true, mo_h hm, pk_in', cl_nI, nI_m8, nI_m12, nI_m20, nI_add, nI_1, nI_pred, mOK_sI, dR_sI, n0le0, n1le0, n2le0, n3le0, n3e0, sx_745, c]
        refine hp2 p hpN rfl _ ?_
        exact ⟨by
          (repeat (refine CFr.sI ?_ (by simp only [hK_sI, mo_h hm]; rfl)))
          exact CFr.rfl, ⟨hm, by simp only [sx_745]⟩, by simp only [hI_sI, Nat.reduceEqDiff, reduceCtorEq, false_and, and_false, if_false, and_self, if_true]⟩
      · simp (disch := omega) only [wx_X9_stage_34, wx_X9_stage_14, wx_X9_stage_0, tx_X9_isPage, ap_pushI, ap_pushN, ap_pushL, ap_iload0, ap_aload0r, ap_aload0n, ap_aload0o, ap_istore0, ap_astore0r, ap_astore0n, ap_astore0o, ap_iinc0, ap_iload1, ap_aload1r, ap_aload1n, ap_aload1o, ap_istore1, ap_astore1r, ap_astore1n, ap_astore1o, ap_iinc1, ap_iload2, ap_aload2r, ap_aload2n, ap_aload2o, ap_istore2, ap_astore2r, ap_astore2n, ap_astore2o, ap_iinc2, ap_iload3, ap_aload3r, ap_aload3n, ap_aload3o, ap_istore3, ap_astore3r, ap_astore3n, ap_astore3o, ap_iinc3, ap_iload4, ap_aload4r, ap_aload4n, ap_aload4o, ap_istore4, ap_astore4r, ap_astore4n, ap_astore4o, ap_iinc4, ap_iload5, ap_aload5r, ap_aload5n, ap_aload5o, ap_istore5, ap_astore5r, ap_astore5n, ap_astore5o, ap_iinc5, ap_iload6, ap_aload6r, ap_aload6n, ap_aload6o, ap_istore6, ap_astore6r, ap_astore6n, ap_astore6o, ap_iinc6, ap_iload7, ap_aload7r, ap_aload7n, ap_aload7o, ap_istore7, ap_astore7r, ap_astore7n, ap_astore7o, ap_iinc7, ap_iload8, ap_aload8r, ap_aload8n, ap_aload8o, ap_istore8, ap_astore8r, ap_astore8n, ap_astore8o, ap_iinc8, ap_iload9, ap_aload9r, ap_aload9n, ap_aload9o, ap_istore9, ap_astore9r, ap_astore9n, ap_astore9o, ap_iinc9, ap_iload10, ap_aload10r, ap_aload10n, ap_aload10o, ap_istore10, ap_astore10r, ap_astore10n, ap_astore10o, ap_iinc10, ap_iload11, ap_aload11r, ap_aload11n, ap_aload11o, ap_istore11, ap_astore11r, ap_astore11n, ap_astore11o, ap_iinc11, ap_iload12, ap_aload12r, ap_aload12n, ap_aload12o, ap_istore12, ap_astore12r, ap_astore12n, ap_astore12o, ap_iinc12, ap_iload13, ap_aload13r, ap_aload13n, ap_aload13o, ap_istore13, ap_astore13r, ap_astore13n, ap_astore13o, ap_iinc13, ap_iload14, ap_aload14r, ap_aload14n, ap_aload14o, ap_istore14, ap_astore14r, ap_astore14n, ap_astore14o, ap_iinc14, ap_iload15, ap_aload15r, ap_aload15n, ap_aload15o, ap_istore15, ap_astore15r, ap_astore15n, ap_astore15o, ap_iinc15, ap_iadd, ap_isub, ap_imul, ap_iand, ap_ior, ap_ixor, ap_ishl, ap_ishr, ap_iushr, ap_idiv, ap_i2l, ap_lcmp, ap_dup, ap_pop, ap_dupx1, ap_dup2, ap_ifeq, ap_ifne, ap_iflt, ap_ifge, ap_ifgt, ap_ifle, ap_iceq, ap_icne, ap_iclt, ap_icge, ap_icgt, ap_icle, ap_ifnullr, ap_ifnulln, ap_ifnullo, ap_getI, ap_getR, ap_putI, ap_putZ, ap_putRr, ap_putRn, ap_putRo, ap_new, ap_newarr, ap_ald, ap_lald, ap_aald, ap_alen, ap_ast, ap_zast, ap_last, ap_aast, ap_castr, ap_gste, ap_objinit, ap_mmax, ap_mmin, ap_dead, ap_iret, ap_zret, ap_aret, ap_vret, ap_throw, ap_callV0, ap_callI0, ap_callS0, ap_callV1, ap_callI1, ap_callS1, ap_callV2, ap_callI2, ap_callS2, ap_callV3, ap_callI3, ap_callS3, ap_callV4, ap_callI4, ap_callS4, ap_callV5, ap_callI5, ap_callS5, ap_callV6, ap_callI6, ap_callS6, ap_callV7, ap_callI7, ap_callS7, ap_callV8, ap_callI8, ap_callS8, ap_callV9, ap_callI9, ap_callS9, pushO, isRf_ref, isRf_null, isRf_rf, isC1_int, isC1_ref, isC1_null, isC1_rf, true_and, and_true, List.length_cons, List.length_nil, Nat.reduceAdd, Nat.reduceLeDiff, hK_sI, hN_sI, hR_sI, hI_sI, hK_sR, hN_sR, hR_sR, hI_sR, kC_2, kC_3, kC_4, kC_5, kC_6, kC_7, kC_8, kC_9, kC_10, kC_11, kC_20, kC_21, kC_22, kC_23, i2_0, i1_1, i0_1, i1_0, bI_and, bI_0, Decidable.not_not, not_false_eq_true, not_true_eq_false, forall_const, false_implies, true_implies, hK_copy, hN_copy, hI_copy, hC_sI, hC_sR, hC_new, hK_new, hN_new, hI_new, hR_new, rf_some, rf_none, ex_ref, ex_null, ex_rf, nref_null, rf_null, Nat.reduceEqDiff, reduceCtorEq, false_and, and_false, if_false, if_true, ne_eq, kO_150, kO_151, kO_152, kO_170, kO_180, kO_190, Value.ref.injEq, exists_eq_left', false_or, ↓reduceIte, and_self, not_true_eq_false, hm, mo_4 hm, rs_4, sq_4, su_at, implies_true, mo_h hm, pk_in', cl_nI, nI_m8, nI_m12, nI_m20, nI_add, nI_1, nI_pred, mOK_sI, dR_sI, n0le0, n1le0, n2le0, n3le0, n3e0, sx_745, c]
        refine hp1 c _ ?_
        exact ⟨by
          (repeat (refine CFr.sI ?_ (by simp only [hK_sI, mo_h hm]; rfl)))
          exact CFr.rfl, ⟨hm, by simp only [sx_745]⟩, by simp only [hI_sI, Nat.reduceEqDiff, reduceCtorEq, false_and, and_false, if_false, and_self, if_true]⟩
    · exact hT.elim
  · unfold T_X9_stage at hT
    split at hT
    · exact ⟨Nat.le_of_ble_eq_true rfl, by simp [isC1_int, isC1_ref, isC1_null, isC1_rf]⟩
    · exact hT.elim
