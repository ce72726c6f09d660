theorem RC.cl2 {h h' : hp_T} {c : Nat} {σ : sg_T} (x : RC h c σ) (f : Fr h h') (e : ∀ b, ownK (hK h b) = true ∨ topK (hK h b) = true → sameAt h h' b) : RC h' c σ := by
  have S1 : ∀ b, topK (hK h b) = true → sameAt h h' b := fun b hb => e b (Or.inr hb)
  obtain ⟨⟨x1, x2, x3⟩, ⟨y1, y2, y3⟩, ⟨z1, z2, o, z3⟩, w1, w2⟩ := x
  have s := S1 c (by rw [x1]; rfl)
  have d0 := s.dR 640
  have d1 := s.dR 641
  obtain ⟨s1, s2, s3⟩ := s
  obtain ⟨u1, u2⟩ := z2.fr f (fun b hb => S1 b (by rcases hb with e | e <;> rw [e] <;> rfl)) rfl
  have cs := f.2.2 (hC h 0) (by rw [x2]; rfl)
  refine ⟨⟨s1.trans x1, by rw [f.2.1, cs.1]; exact x2, by rw [f.2.1, cs.2.1]; exact x3⟩, ⟨?_, ?_, ?_⟩, ⟨?_, ?_, o, fun p hp => ?_⟩, ?_, ?_⟩
  · rw [(s3 _ _).1]; exact y1
  · rw [(s3 _ _).1]; exact y2
  · rw [(s3 _ _).1]; exact y3
  · rw [d0, (s3 _ _).2]; exact z1
  · rw [d0]; exact u1
  · rw [d0, u2]
    exact (z3 p hp).fr f (fun b h1 _ => e b (Or.inl h1)) (fun _ _ => rfl) sPg.rfl
  · rw [d1, (s3 _ _).2]; exact w1
  · rw [d1]; exact w2.fr f (fun b hb => S1 b (by rcases hb with e | e <;> rw [e] <;> rfl)) rfl (fun _ _ _ _ => rfl)
/-- a row of what is worn has changed -/
theorem RC.worn {h h' : hp_T} {c b : Nat} {σ : sg_T} (X : RC h c σ) (kb : hK h b = 151) (e : ∀ q, ¬ q = b → sameAt h h' q) (ek : hK h' b = 151) (ec : ∀ i, hC h' i = hC h i) : RC h' c σ := by
  have s : ∀ q, ¬ hK h q = 151 → sameAt h h' q := fun q n => e q (fun z => n (z ▸ kb))
  refine X.cl2 ⟨fun q hq => ?_, ec, fun q hq => s q (fun z => by rw [z] at hq; cases hq)⟩ (fun q hq => s q (fun z => by rw [z] at hq; rcases hq with w | w <;> cases w))
  by_cases z : q = b
  · rw [z, ek, kb]
  · exact (e q z).1
theorem MFr.worn {h h' : hp_T} {b : Nat} (kb : hK h b = 151) (e : ∀ q, ¬ q = b → sameAt h h' q) : MFr h h' := fun q hq => e q (fun z => by rw [z, kb] at hq; cases hq)
theorem row_same (h : hp_T) (b : Nat) (f : Nat → Int32) (q : Nat) (n : ¬ q = b) : sameAt h (hrow h 151 b f) q := ⟨rfl, rfl, fun g i => ⟨by rw [hI_row, if_neg (fun z => n z.2)], rfl⟩⟩
theorem fill_same (h : hp_T) (b n : Nat) (v : Int32) (q : Nat) (ne : ¬ q = b) : sameAt h (hfill h 151 b n v) q := ⟨rfl, rfl, fun g i => ⟨by rw [hI_fill, if_neg (fun z => ne z.2.1)], rfl⟩⟩
/-- count and row against the figures one by one -/
def Rel (a : Int32) (x : Int32 × (Nat → Int32)) (S : Nat → Int32 × Int32) : Prop := a + x.1 = sumI (fun f => (S f).1) 12 ∧ ∀ f, f < 12 → x.2 f = (S f).2
theorem Rel.panel {h : hp_T} {σ : sg_T} {i q : Nat} (k : pnR h σ i q) {a : Int32} {x : Int32 × (Nat → Int32)} {S : Nat → Int32 × Int32} (r : Rel a x S) : Rel a (x.1 + sumI (pnB h q x.2) 12, fun f => if f < 12 then pnW h q x.2 f else x.2 f) (fun f => bk1 σ (12 * i + f) (S f)) := by
  obtain ⟨r1, r2⟩ := r
  have e : ∀ f, f < 12 → (bk1 σ (12 * i + f) (S f)).1 = (S f).1 + pnB h q x.2 f ∧ (bk1 σ (12 * i + f) (S f)).2 = pnW h q x.2 f := fun f hf => by
    have y := k.2.2 f hf
    unfold bk1 pnB pnW
    cases ho : pnFO h q f with
    | none =>
      rw [ho] at y
      have z : σ 16 (12 * i + f) = 0 := y
      rw [if_neg (by rw [z]; decide)]
      dsimp only
      exact ⟨(Int32.add_zero _).symm, (r2 f hf).symm⟩
    | some d =>
      rw [ho] at y
      obtain ⟨y1, y2, y3, y4, y5⟩ := y
      rw [if_pos y5]
      dsimp only
      rw [r2 f hf, y2, y3]
      exact ⟨rfl, rfl⟩
  refine ⟨?_, fun f hf => ?_⟩
  · dsimp only
    rw [← Int32.add_assoc, r1, ← sumI_add]
    exact sumI_cg _ _ _ (fun f hf => (e f hf).1.symm)
  · dsimp only
    rw [if_pos hf]; exact (e f hf).2.symm
theorem Rel.page {h : hp_T} {σ : sg_T} {p a : Nat} (k : PgV h σ p a) {L : List Nat} (hL : ∀ j, j ∈ L → j < pN σ p) (h8 : L.length ≤ 8) (w8 : pN σ p ≤ 8) : ∀ (n i : Nat) (c0 : Int32) (x : Int32 × (Nat → Int32)) (S : Nat → Int32 × Int32), i + n = L.length → Rel c0 x S → Rel c0 (brkL h a (ordI L) n i x) (fun f => bkK σ L p f n i (S f))
  | 0, _, _, _, _, _, r => r
  | n + 1, i, c0, x, S, hi, r => by
    have g := ordG (L := L) (i := i) (by omega)
    have gm := hL _ g.2
    have e : brkS h a (ordI L i) x = (x.1 + sumI (pnB h (pn h a (L.getD i 0)) x.2) 12, fun f => if f < 12 then pnW h (pn h a (L.getD i 0)) x.2 f else x.2 f) := by
      unfold brkS
      rw [g.1, k.1.2.1, if_pos ⟨nI_pos (by omega), (ltI (by omega) (by omega)).mpr gm⟩, cl_nI (by omega)]
    have y := Rel.page k hL h8 w8 n (i + 1) c0 (brkS h a (ordI L i) x) (fun f => bk1 σ (12 * (8 * p + L.getD i 0) + f) (S f)) (by omega) (by rw [e]; exact r.panel (k.2.1 _ gm))
    exact y
theorem brkL_0 (h : hp_T) (a : Nat) (O : Nat → Int32) : ∀ k i x (y : Int32), brkL h a O k i (y + x.1, x.2) = (y + (brkL h a O k i x).1, (brkL h a O k i x).2)
  | 0, _, _, _ => rfl
  | k + 1, i, x, y => by
    rw [brkL, brkL]
    have e : brkS h a (O i) (y + x.1, x.2) = (y + (brkS h a (O i) x).1, (brkS h a (O i) x).2) := by
      unfold brkS
      split
      · dsimp only; rw [Int32.add_assoc]
      · rfl
    rw [e, brkL_0 h a O k (i + 1)]
theorem bk1_a (σ : sg_T) (d : Nat) (a y w : Int32) : bk1 σ d (a + y, w) = (a + (bk1 σ d (y, w)).1, (bk1 σ d (y, w)).2) := by
  unfold bk1
  split
  · dsimp only; rw [Int32.add_assoc]
  · rfl
theorem bkK_a (σ : sg_T) (L : List Nat) (p f : Nat) (a : Int32) : ∀ n i x, bkK σ L p f n i (a + x.1, x.2) = (a + (bkK σ L p f n i x).1, (bkK σ L p f n i x).2)
  | 0, _, _ => rfl
  | n + 1, i, x => by rw [bkK, bkK, bk1_a, bkK_a σ L p f a n (i + 1)]
theorem bkP_a (σ : sg_T) (f : Nat) (a : Int32) : ∀ n p x, bkP σ f n p (a + x.1, x.2) = (a + (bkP σ f n p x).1, (bkP σ f n p x).2)
  | 0, _, _ => rfl
  | n + 1, p, x => by rw [bkP, bkP, bkK_a, bkP_a σ f a n (p + 1)]
theorem bkF_R (σ : sg_T) : ∀ n f a, bkF σ n f a = sumR (fun f => (bkP σ f (sN σ) 0 (0, -1)).1) n f a
  | 0, _, _ => rfl
  | n + 1, f, a => by
    rw [bkF, sumR, bkF_R σ n (f + 1)]
    congr 1
    have := congrArg Prod.fst (bkP_a σ f a (sN σ) 0 (0, -1))
    dsimp only at this
    rw [Int32.add_zero] at this
    exact this
theorem bkK_0 {σ : sg_T} (hW : WF σ) {p f : Nat} (hp : p < 8) (hf : f < 12) (hn : sF σ ≤ f) {L : List Nat} (hL : ∀ j, j ∈ L → j < 8) : ∀ n i x, i + n = L.length → bkK σ L p f n i x = x
  | 0, _, _, _ => rfl
  | n + 1, i, x, hi => by
    have g := ordG (L := L) (i := i) (by omega)
    have gm := hL _ g.2
    have z : σ 16 (12 * (8 * p + L.getD i 0) + f) = 0 := by
      rcases (hW.2.2.2.1 p _ f hp gm hf).2 with e | e
      · exact e
      · omega
    have e : bk1 σ (12 * (8 * p + L.getD i 0) + f) x = x := by
      unfold bk1
      rw [if_neg (by rw [z]; decide)]
    rw [bkK, e]
    exact bkK_0 hW hp hf hn hL n (i + 1) x (by omega)
theorem bkP_0 {σ : sg_T} (hW : WF σ) {f : Nat} (hf : f < 12) (hn : sF σ ≤ f) : ∀ n p x, p + n = sN σ → bkP σ f n p x = x
  | 0, _, _, _ => rfl
  | n + 1, p, x, hp => by
    have h8 := hW.1.1.2
    obtain ⟨q1, q2, q3⟩ := rdS_prm hW (p := p) (by omega) (σ 1 p)
    have w8 := (hW.2.1 p (by omega)).1.2
    rw [bkP, bkK_0 hW (by omega) hf hn (fun j hj => by have := (q3 j).mp hj; omega) _ 0 x (by omega)]
    exact bkP_0 hW hf hn n (p + 1) x (by omega)
theorem sumI_more (f : Nat → Int32) (n : Nat) : ∀ k, (∀ i, n ≤ i → i < n + k → f i = 0) → sumI f (n + k) = sumI f n
  | 0, _ => rfl
  | k + 1, h => by rw [show n + (k + 1) = (n + k) + 1 from rfl, sumI, sumI_more f n k (fun i a b => h i a (by omega)), h (n + k) (by omega) (by omega), Int32.add_zero]
theorem bkF_12 {σ : sg_T} (hW : WF σ) : bkF σ (sF σ) 0 0 = sumI (fun f => (bkP σ f (sN σ) 0 (0, -1)).1) 12 := by
  have w := hW.1.2.1.2
  rw [bkF_R, sumR_I]
  have := sumI_more (fun f => (bkP σ f (sN σ) 0 (0, -1)).1) (sF σ) (12 - sF σ) (fun i a b => by rw [bkP_0 hW (by omega) a _ _ _ (by omega)])
  rw [show sF σ + (12 - sF σ) = 12 by omega] at this
  exact this.symm
def wp_X8_breaks_0 (P : Option Value → hp_T → Prop) (X : String → hp_T → Prop) (K14 : KT) : KT :=
  i_pushI 12 (i_newarr 151 12 (i_astore 1 (i_aload 1 (i_pushI (-1) (i_callS 2 T_J7_fill_53178 noX (i_pushI 0 (i_istore 2 (i_pushI 0 (i_istore 3 K14)))))))))
theorem wx_X8_breaks_0 (P : Option Value → hp_T → Prop) (X : String → hp_T → Prop) (K14 : KT) (ls : List (Option Value)) (st : List Value) (h : hp_T) : wp_X8_breaks_0 P X K14 ls st h = (i_pushI 12 (i_newarr 151 12 (i_astore 1 (i_aload 1 (i_pushI (-1) (i_callS 2 T_J7_fill_53178 noX (i_pushI 0 (i_istore 2 (i_pushI 0 (i_istore 3 K14)))))))))) ls st h := rfl
set_option maxRecDepth 20000 in
theorem go_X8_breaks_0 {z : zT} {P : Option Value → hp_T → Prop} {X : String → hp_T → Prop} {K14 : KT} (hz : Cx z cX8_breaks 4 "Panelry" "breaks" 16 19 129) (hr : Rt z (some .int) P X 19 129) (h14 : Go z (1) (12) 14 K14) : Go z 0 0 0 (wp_X8_breaks_0 P X K14) := 
  s_bipush hz rfl dX8_breaks_0 (s_newarr (at0 := .int) (ty := .int) hz rfl rfl rfl rfl (Or.inl ⟨rfl, rfl⟩) w162 rfl rfl rfl dX8_breaks_2 (s_astore_n hz rfl rfl dX8_breaks_4 (s_aload_n hz rfl dX8_breaks_5
    (s_iconst hz rfl dX8_breaks_6 (s_callS hz ct_J7_fill_53178 ⟨w109, w111, w41, by decide, by decide, by decide +kernel⟩ w110 rfl rfl rfl rfl out_no dX8_breaks_7 (s_iconst hz rfl dX8_breaks_10
    (s_istore_n hz rfl rfl dX8_breaks_11 (s_iconst hz rfl dX8_breaks_12 (s_istore_n hz rfl rfl dX8_breaks_13 (Go.widen _ _ h14 (by omega) (by omega)))))))))))
def wp_X8_breaks_14 (P : Option Value → hp_T → Prop) (X : String → hp_T → Prop) (K14 : KT) : KT :=
  i_iload 3 (i_aload 0 (i_getR 10 640 (i_callV 0 1 T_Jx4a65c_size_8abf5 noX (i_icge (i_iload 2 (i_iret P)) (i_iload 2 (i_aload 0 (i_getR 10 640 (i_iload 3 (i_callV 1 1 T_Jx4a65c_get_915e3 noX
    (i_cast 5 (i_aload 1 (i_callV 1 5 T_X3_countBreaks noX (i_iadd (i_istore 2 (i_iinc 3 1 K14)))))))))))))))
theorem wx_X8_breaks_14 (P : Option Value → hp_T → Prop) (X : String → hp_T → Prop) (K14 : KT) (ls : List (Option Value)) (st : List Value) (h : hp_T) : wp_X8_breaks_14 P X K14 ls st h = (i_iload 3 (i_aload 0 (i_getR 10 640 (i_callV 0 1 T_Jx4a65c_size_8abf5 noX (i_icge (i_iload 2 (i_iret P)) (i_iload 2 (i_aload 0 (i_getR 10 640 (i_iload 3 (i_callV 1 1 T_Jx4a65c_get_915e3 noX
    (i_cast 5 (i_aload 1 (i_callV 1 5 T_X3_countBreaks noX (i_iadd (i_istore 2 (i_iinc 3 1 K14)))))))))))))))) ls st h := rfl
set_option maxRecDepth 20000 in
theorem go_X8_breaks_14 {z : zT} {C S : Nat} {P : Option Value → hp_T → Prop} {X : String → hp_T → Prop} {K14 : KT} (hz : Cx z cX8_breaks 4 "Panelry" "breaks" 16 19 129) (hr : Rt z (some .int) P X 19 129) (hC : C + 2 ≤ 19) (hS : S + 13 ≤ 129) (h14 : Go z (C + 2) (S + 13) 14 K14) : Go z C S 14 (wp_X8_breaks_14 P X K14) := 
  s_iload_n hz rfl dX8_breaks_14 (s_aload_n hz rfl dX8_breaks_15 (fg_RX8_12 hz dX8_breaks_16 (s_callV hz ct_Jx4a65c_size_8abf5 ⟨w112, w115, w32, by decide, by decide, by decide +kernel⟩ w113 w114 cls0 rfl rfl rfl rfl
    (ble_of (by omega)) (ble_of (by omega)) out_no dX8_breaks_19 (s_icge hz (tgt := 49) rfl dX8_breaks_22 (s_iload_n hz rfl dX8_breaks_49 (s_iret hz hr (ble_of (by omega)) (ble_of (by omega)) dX8_breaks_50))
    (s_iload_n hz rfl dX8_breaks_25 (s_aload_n hz rfl dX8_breaks_26 (fg_RX8_12 hz dX8_breaks_27 (s_iload_n hz rfl dX8_breaks_30 (s_callV hz ct_Jx4a65c_get_915e3 ⟨w116, w119, w32, by decide, by decide, by decide +kernel⟩ w117 w118 cls0 rfl rfl rfl rfl
    (ble_of (by omega)) (ble_of (by omega)) out_no dX8_breaks_31 (s_cast hz kO_5 rfl cls4 w130 dX8_breaks_34 (s_aload_n hz rfl dX8_breaks_37 (s_callV hz ct_X3_countBreaks ⟨w131, w134, w38, by decide, by decide, by decide +kernel⟩ w132 w133 cls4 rfl rfl rfl rfl
    (ble_of (by omega)) (ble_of (by omega)) out_no dX8_breaks_38 (s_iadd hz dX8_breaks_41 (s_istore_n hz rfl rfl dX8_breaks_42 (s_iinc hz rfl rfl dX8_breaks_43 (s_goto hz (tgt := 14) rfl dX8_breaks_46
    (Go.widen _ _ h14 (by omega) (by omega))))))))))))))))))

def T_X8_breaks : PT := fun av h P X => match av with
  | [.ref c] => (True) ∧ (∃ σ, (RC h c σ ∧ WF σ) ∧ ∀ h', CE h c σ h' → P (some (.int (bkF σ (sF σ) 0 0))) h')
  | _ => False
theorem tx_X8_breaks (c : Nat) (h : hp_T) (P : Option Value → hp_T → Prop) (X : String → hp_T → Prop) : T_X8_breaks [.ref c] h P X = ((True) ∧ (∃ σ, (RC h c σ ∧ WF σ) ∧ ∀ h', CE h c σ h' → P (some (.int (bkF σ (sF σ) 0 0))) h')) := rfl
set_option maxRecDepth 20000 in
theorem ct_X8_breaks : CT yX8_breaks cX8_breaks 4 (some .int) 16 19 129 T_X8_breaks := by
  refine ct_ofE (by decide) (fun z av h P X hT hz hr => ?_) (fun av h P X hT => ?_)
  · unfold T_X8_breaks at hT
    split at hT
    · rename_i c
      obtain ⟨hk, hp⟩ := hT
      obtain ⟨σ, ⟨hX, hW⟩, h1⟩ := hp
      have kc := hX.cp hW
      have hn := hX.n
      have hN8 := hW.1.1.2
      have k1 := hX.1.1
      have l14 := Go.loopA (z := z) (pc := 14) (fun i => 1 + 2 * i) (fun i => 12 + 13 * i) 8 (fun i ls st h' => ∃ b a S, i ≤ sN σ ∧ ls = [some (.ref c), some (.ref b), some (.int a), some (.int (nI i))] ∧ st = [] ∧ CE h c σ h' ∧ (hK h' b = 151 ∧ hN h' b = 12) ∧ Rel 0 (a, hI h' 151 b) S ∧ ∀ f, f < 12 → bkP σ f (sN σ - i) i (S f) = bkP σ f (sN σ) 0 (0, -1)) (fun k => wp_X8_breaks_14 P X k) (fun i k hi hgo => go_X8_breaks_14 hz hr (by omega) (by omega) (Go.widen _ _ hgo (by omega) (by omega))) (by
        rintro i hi ls st h' ⟨b, a, S, hin, rfl, rfl, hM, ⟨kb, nb⟩, hR, hF⟩
        have X2 := hM.1
        obtain ⟨⟨k1', r1, r2⟩, r3, r4, r5⟩ := X2.list
        have hge : (nI (sN σ) ≤ nI i) ↔ ¬ i < sN σ := by rw [leI (by omega) (by omega)]; omega
        by_cases ci : i < sN σ
        · have i0 : ¬ nI i < 0 := nI_pos (by omega)
          have i1 : nI i < nI (sN σ) := (ltI (by omega) (by omega)).mpr ci
          have icl : (nI i).toNatClampNeg = i := cl_nI (by omega)
          have k := X2.view hW ci
          have kp := k.1.1
          have k5 := kp.1
          have ek : lel h' (dR h' 640 c) i = cg h' c i := rfl
          obtain ⟨q1, q2, q3⟩ := rdS_prm hW (p := i) (by omega) (σ 1 i)
          have w8 := (hW.2.1 i (by omega)).1.2
          have eB : brkP h' (cg h' c i) b = brkL h' (cg h' c i) (ordI (rdS σ i (σ 1 i)).1) (pN σ i) 0 (0, hI h' 151 b) := by
            unfold brkP
            rw [k.1.2.2.2.1, k.rd, k.1.2.1]
          generalize hBR : brkP h' (cg h' c i) b = BR at eB
          suffices step : ∀ K : KT, (∀ h2, Ext h' h2 → K [some (.ref c), some (.ref b), some (.int (a + BR.1)), some (.int (nI (i + 1)))] [] (hrow h2 151 b BR.2)) → wp_X8_breaks_14 P X K [some (.ref c), some (.ref b), some (.int a), some (.int (nI i))] [] h' from
            step _ (fun h2 E => by
              have kb2 := E.K kb (by decide)
              have nb2 : hN h2 b = 12 := by rw [(E.1 b (by rw [kb]; decide)).2.1]; exact nb
              refine ⟨by omega, b, a + BR.1, fun f => bkK σ (rdS σ i (σ 1 i)).1 i f (rdS σ i (σ 1 i)).1.length 0 (S f), by omega, rfl, rfl, ⟨(X2.cl (Cl.of_ext E)).worn kb2 (row_same h2 b BR.2) kb2 (fun _ => rfl), (hM.2.trans (MFr.of_ext E)).trans (MFr.worn kb2 (row_same h2 b BR.2))⟩, ⟨kb2, nb2⟩, ?_, fun f hf => ?_⟩
              · have y := Rel.page k (L := (rdS σ i (σ 1 i)).1) (fun j hj => (q3 j).mp hj) (by omega) w8 (rdS σ i (σ 1 i)).1.length 0 0 (a, hI h' 151 b) S (by omega) hR
                rw [q2] at y ⊢
                have e2 := brkL_0 h' (cg h' c i) (ordI (rdS σ i (σ 1 i)).1) (pN σ i) 0 (0, hI h' 151 b) a
                dsimp only at e2
                rw [Int32.add_zero, ← eB] at e2
                rw [e2] at y
                refine ⟨y.1, fun f hf => ?_⟩
                rw [← y.2 f hf]
                exact (hI_row h2 151 b BR.2 151 b f).trans (if_pos ⟨rfl, rfl⟩)
              · have := hF f hf
                rw [show sN σ - i = (sN σ - (i + 1)) + 1 by omega, bkP] at this
                exact this)
          intro K hK
          simp (disch := omega) only [wx_X8_breaks_14, tx_J7_fill_53178, tx_Jx4a65c_size_8abf5, tx_Jx4a65c_get_915e3, tx_X3_countBreaks, aq_pushI, aq_pushN, aq_pushL, aq_iload0, ap_aload0r, ap_aload0n, ap_aload0o, aq_istore0, ap_astore0r, ap_astore0n, ap_astore0o, aq_iinc0, aq_iload1, ap_aload1r, ap_aload1n, ap_aload1o, aq_istore1, ap_astore1r, ap_astore1n, ap_astore1o, aq_iinc1, aq_iload2, ap_aload2r, ap_aload2n, ap_aload2o, aq_istore2, ap_astore2r, ap_astore2n, ap_astore2o, aq_iinc2, aq_iload3, ap_aload3r, ap_aload3n, ap_aload3o, aq_istore3, ap_astore3r, ap_astore3n, ap_astore3o, aq_iinc3, aq_iload4, ap_aload4r, ap_aload4n, ap_aload4o, aq_istore4, ap_astore4r, ap_astore4n, ap_astore4o, aq_iinc4, aq_iload5, ap_aload5r, ap_aload5n, ap_aload5o, aq_istore5, ap_astore5r, ap_astore5n, ap_astore5o, aq_iinc5, aq_iload6, ap_aload6r, ap_aload6n, ap_aload6o, aq_istore6, ap_astore6r, ap_astore6n, ap_astore6o, aq_iinc6, aq_iload7, ap_aload7r, ap_aload7n, ap_aload7o, aq_istore7, ap_astore7r, ap_astore7n, ap_astore7o, aq_iinc7, aq_iload8, ap_aload8r, ap_aload8n, ap_aload8o, aq_istore8, ap_astore8r, ap_astore8n, ap_astore8o, aq_iinc8, aq_iload9, ap_aload9r, ap_aload9n, ap_aload9o, aq_istore9, ap_astore9r, ap_astore9n, ap_astore9o, aq_iinc9, aq_iload10, ap_aload10r, ap_aload10n, ap_aload10o, aq_istore10, ap_astore10r, ap_astore10n, ap_astore10o, aq_iinc10, aq_iload11, ap_aload11r, ap_aload11n, ap_aload11o, aq_istore11, ap_astore11r, ap_astore11n, ap_astore11o, aq_iinc11, aq_iload12, ap_aload12r, ap_aload12n, ap_aload12o, aq_istore12, ap_astore12r, ap_astore12n, ap_astore12o, aq_iinc12, aq_iload13, ap_aload13r, ap_aload13n, ap_aload13o, aq_istore13, ap_astore13r, ap_astore13n, ap_astore13o, aq_iinc13, aq_iload14, ap_aload14r, ap_aload14n, ap_aload14o, aq_istore14, ap_astore14r, ap_astore14n, ap_astore14o, aq_iinc14, aq_iload15, ap_aload15r, ap_aload15n, ap_aload15o, aq_istore15, ap_astore15r, ap_astore15n, ap_astore15o, aq_iinc15, aq_iadd, aq_isub, aq_imul, aq_iand, aq_ior, aq_ixor, aq_ishl, aq_ishr, aq_iushr, aq_idiv, aq_i2l, aq_lcmp, aq_dup, aq_pop, aq_dupx1, aq_dup2, ap_ifeq, ap_ifne, ap_iflt, ap_ifge, ap_ifgt, ap_ifle, ap_iceq, ap_icne, ap_iclt, ap_icge, ap_icgt, ap_icle, ap_ifnullr, ap_ifnulln, ap_ifnullo, aq_getI, aq_getR, aq_putI, aq_putZ, ap_putRr, ap_putRn, ap_putRo, aq_new, aq_newarr, aq_ald, aq_lald, aq_aald, aq_alen, aq_ast, aq_zast, ap_last, aq_aast, ap_castr, aq_gste, aq_objinit, aq_mmax, aq_mmin, aq_dead, aq_iret, aq_zret, aq_aret, aq_vret, aq_throw, aq_callV0, aq_callI0, aq_callS0, aq_callV1, aq_callI1, aq_callS1, aq_callV2, aq_callI2, aq_callS2, aq_callV3, aq_callI3, aq_callS3, aq_callV4, aq_callI4, aq_callS4, aq_callV5, aq_callI5, aq_callS5, aq_callV6, aq_callI6, aq_callS6, aq_callV7, aq_callI7, aq_callS7, aq_callV8, aq_callI8, aq_callS8, aq_callV9, aq_callI9, aq_callS9, pushO, isRf_ref, isRf_null, isRf_rf, isC1_int, isC1_ref, isC1_null, isC1_rf, true_and, and_true, List.length_cons, List.length_nil, Nat.reduceAdd, Nat.reduceLeDiff, hK_sI, hN_sI, hR_sI, hI_sI, hK_sR, hN_sR, hR_sR, hI_sR, kC_2, kC_3, kC_4, kC_5, kC_6, kC_7, kC_8, kC_9, kC_10, kC_11, kC_20, kC_21, kC_22, kC_23, i2_0, i1_1, i0_1, i1_0, bI_and, bI_0, Decidable.not_not, not_false_eq_true, not_true_eq_false, forall_const, false_implies, true_implies, hK_copy, hN_copy, hI_copy, hC_sI, hC_sR, hC_new, hK_new, hN_new, hI_new, hR_new, rf_some, rf_none, ex_ref, ex_null, ex_rf, nref_null, rf_null, Nat.reduceEqDiff, reduceCtorEq, false_and, and_false, if_false, if_true, ne_eq, kO_150, kO_151, kO_152, kO_170, kO_180, kO_190, Value.ref.injEq, exists_eq_left', false_or, ↓reduceIte, and_self, not_true_eq_false, k1', r1, r2, r3, r4, kC_20, kC_5, nI_1, hge, ci, i0, i1, icl, ek, k5, kp, kb, nb, hBR]
          exact hK
        · have ei : i = sN σ := by omega
          subst ei
          have y := h1 h' hM
          have e : bkF σ (sF σ) 0 0 = a := by
            rw [bkF_12 hW]
            have r := hR.1
            dsimp only at r
            rw [Int32.zero_add] at r
            rw [r]
            exact sumI_cg _ _ _ (fun f hf => by rw [← hF f hf, Nat.sub_self]; rfl)
          rw [e] at y
          show wp_X8_breaks_14 P X _ _ _ _
          simp (disch := omega) only [wx_X8_breaks_14, tx_Jx4a65c_size_8abf5, aq_pushI, aq_pushN, aq_pushL, aq_iload0, ap_aload0r, ap_aload0n, ap_aload0o, aq_istore0, ap_astore0r, ap_astore0n, ap_astore0o, aq_iinc0, aq_iload1, ap_aload1r, ap_aload1n, ap_aload1o, aq_istore1, ap_astore1r, ap_astore1n, ap_astore1o, aq_iinc1, aq_iload2, ap_aload2r, ap_aload2n, ap_aload2o, aq_istore2, ap_astore2r, ap_astore2n, ap_astore2o, aq_iinc2, aq_iload3, ap_aload3r, ap_aload3n, ap_aload3o, aq_istore3, ap_astore3r, ap_astore3n, ap_astore3o, aq_iinc3, aq_iload4, ap_aload4r, ap_aload4n, ap_aload4o, aq_istore4, ap_astore4r, ap_astore4n, ap_astore4o, aq_iinc4, aq_iload5, ap_aload5r, ap_aload5n, ap_aload5o, aq_istore5, ap_astore5r, ap_astore5n, ap_astore5o, aq_iinc5, aq_iload6, ap_aload6r, ap_aload6n, ap_aload6o, aq_istore6, ap_astore6r, ap_astore6n, ap_astore6o, aq_iinc6, aq_iload7, ap_aload7r, ap_aload7n, ap_aload7o, aq_istore7, ap_astore7r, ap_astore7n, ap_astore7o, aq_iinc7, aq_iload8, ap_aload8r, ap_aload8n, ap_aload8o, aq_istore8, ap_astore8r, ap_astore8n, ap_astore8o, aq_iinc8, aq_iload9, ap_aload9r, ap_aload9n, ap_aload9o, aq_istore9, ap_astore9r, ap_astore9n, ap_astore9o, aq_iinc9, aq_iload10, ap_aload10r, ap_aload10n, ap_aload10o, aq_istore10, ap_astore10r, ap_astore10n, ap_astore10o, aq_iinc10, aq_iload11, ap_aload11r, ap_aload11n, ap_aload11o, aq_istore11, ap_astore11r, ap_astore11n, ap_astore11o, aq_iinc11, aq_iload12, ap_aload12r, ap_aload12n, ap_aload12o, aq_istore12, ap_astore12r, ap_astore12n, ap_astore12o, aq_iinc12, aq_iload13, ap_aload13r, ap_aload13n, ap_aload13o, aq_istore13, ap_astore13r, ap_astore13n, ap_astore13o, aq_iinc13, aq_iload14, ap_aload14r, ap_aload14n, ap_aload14o, aq_istore14, ap_astore14r, ap_astore14n, ap_astore14o, aq_iinc14, aq_iload15, ap_aload15r, ap_aload15n, ap_aload15o, aq_istore15, ap_astore15r, ap_astore15n, ap_astore15o, aq_iinc15, aq_iadd, aq_isub, aq_imul, aq_iand, aq_ior, aq_ixor, aq_ishl, aq_ishr, aq_iushr, aq_idiv, aq_i2l, aq_lcmp, aq_dup, aq_pop, aq_dupx1, aq_dup2, ap_ifeq, ap_ifne, ap_iflt, ap_ifge, ap_ifgt, ap_ifle, ap_iceq, ap_icne, ap_iclt, ap_icge, ap_icgt, ap_icle, ap_ifnullr, ap_ifnulln, ap_ifnullo, aq_getI, aq_getR, aq_putI, aq_putZ, ap_putRr, ap_putRn, ap_putRo, aq_new, aq_newarr, aq_ald, aq_lald, aq_aald, aq_alen, aq_ast, aq_zast, ap_last, aq_aast, ap_castr, aq_gste, aq_objinit, aq_mmax, aq_mmin, aq_dead, aq_iret, aq_zret, aq_aret, aq_vret, aq_throw, aq_callV0, aq_callI0, aq_callS0, aq_callV1, aq_callI1, aq_callS1, aq_callV2, aq_callI2, aq_callS2, aq_callV3, aq_callI3, aq_callS3, aq_callV4, aq_callI4, aq_callS4, aq_callV5, aq_callI5, aq_callS5, aq_callV6, aq_callI6, aq_callS6, aq_callV7, aq_callI7, aq_callS7, aq_callV8, aq_callI8, aq_callS8, aq_callV9, aq_callI9, aq_callS9, pushO, isRf_ref, isRf_null, isRf_rf, isC1_int, isC1_ref, isC1_null, isC1_rf, true_and, and_true, List.length_cons, List.length_nil, Nat.reduceAdd, Nat.reduceLeDiff, hK_sI, hN_sI, hR_sI, hI_sI, hK_sR, hN_sR, hR_sR, hI_sR, kC_2, kC_3, kC_4, kC_5, kC_6, kC_7, kC_8, kC_9, kC_10, kC_11, kC_20, kC_21, kC_22, kC_23, i2_0, i1_1, i0_1, i1_0, bI_and, bI_0, Decidable.not_not, not_false_eq_true, not_true_eq_false, forall_const, false_implies, true_implies, hK_copy, hN_copy, hI_copy, hC_sI, hC_sR, hC_new, hK_new, hN_new, hI_new, hR_new, rf_some, rf_none, ex_ref, ex_null, ex_rf, nref_null, rf_null, Nat.reduceEqDiff, reduceCtorEq, false_and, and_false, if_false, if_true, ne_eq, kO_150, kO_151, kO_152, kO_170, kO_180, kO_190, Value.ref.injEq, exists_eq_left', false_or, ↓reduceIte, and_self, not_true_eq_false, k1', r1, r2, r3, r4, kC_20, hge, Nat.lt_irrefl, not_false_eq_true]
          exact y) 0 (Nat.zero_le _)
      refine ⟨_, go_X8_breaks_0 hz hr (Go.widen _ _ l14 (by omega) (by omega)), ?_⟩
      suffices base : ∀ K : KT, (∀ b, hK h b = 0 → K [some (.ref c), some (.ref b), some (.int 0), some (.int (nI 0))] [] (hfill (hnew h b 151 12) 151 b 12 (-1))) → wp_X8_breaks_0 P X K [some (.ref c), none, none, none] [] h from
        base _ (fun b hb => by
          have E : Ext h (hnew h b 151 12) := Ext.rfl.new hb 151 12
          have kb : hK (hnew h b 151 12) b = 151 := by rw [hK_new, if_pos rfl]
          have nb : hN (hnew h b 151 12) b = 12 := by rw [hN_new, if_pos rfl]
          refine ⟨b, 0, fun f => (0, -1), by omega, rfl, rfl, ⟨(hX.cl (Cl.of_ext E)).worn kb (fill_same _ b 12 (-1)) kb (fun _ => rfl), (MFr.of_ext E).trans (MFr.worn kb (fill_same _ b 12 (-1)))⟩, ⟨kb, nb⟩, ⟨?_, fun f hf => ?_⟩, fun f hf => rfl⟩
          · dsimp only
            rw [sumI_zero]; rfl
          · exact (hI_fill _ 151 b 12 (-1) 151 b f).trans (if_pos ⟨rfl, rfl, hf⟩))
      intro K hK
      have iF : isF 151 := by simp [isF]
      simp (disch := omega) only [wx_X8_breaks_0, tx_J7_fill_53178, tx_Jx4a65c_size_8abf5, tx_Jx4a65c_get_915e3, tx_X3_countBreaks, aq_pushI, aq_pushN, aq_pushL, aq_iload0, ap_aload0r, ap_aload0n, ap_aload0o, aq_istore0, ap_astore0r, ap_astore0n, ap_astore0o, aq_iinc0, aq_iload1, ap_aload1r, ap_aload1n, ap_aload1o, aq_istore1, ap_astore1r, ap_astore1n, ap_astore1o, aq_iinc1, aq_iload2, ap_aload2r, ap_aload2n, ap_aload2o, aq_istore2, ap_astore2r, ap_astore2n, ap_astore2o, aq_iinc2, aq_iload3, ap_aload3r, ap_aload3n, ap_aload3o, aq_istore3, ap_astore3r, ap_astore3n, ap_astore3o, aq_iinc3, aq_iload4, ap_aload4r, ap_aload4n, ap_aload4o, aq_istore4, ap_astore4r, ap_astore4n, ap_astore4o, aq_iinc4, aq_iload5, ap_aload5r, ap_aload5n, ap_aload5o, aq_istore5, ap_astore5r, ap_astore5n, ap_astore5o, aq_iinc5, aq_iload6, ap_aload6r, ap_aload6n, ap_aload6o, aq_istore6, ap_astore6r, ap_astore6n, ap_astore6o, aq_iinc6, aq_iload7, ap_aload7r, ap_aload7n, ap_aload7o, aq_istore7, ap_astore7r, ap_astore7n, ap_astore7o, aq_iinc7, aq_iload8, ap_aload8r, ap_aload8n, ap_aload8o, aq_istore8, ap_astore8r, ap_astore8n, ap_astore8o, aq_iinc8, aq_iload9, ap_aload9r, ap_aload9n, ap_aload9o, aq_istore9, ap_astore9r, ap_astore9n, ap_astore9o, aq_iinc9, aq_iload10, ap_aload10r, ap_aload10n, ap_aload10o, aq_istore10, ap_astore10r, ap_astore10n, ap_astore10o, aq_iinc10, aq_iload11, ap_aload11r, ap_aload11n, ap_aload11o, aq_istore11, ap_astore11r, ap_astore11n, ap_astore11o, aq_iinc11, aq_iload12, ap_aload12r, ap_aload12n, ap_aload12o, aq_istore12, ap_astore12r, ap_astore12n, ap_astore12o, aq_iinc12, aq_iload13, ap_aload13r, ap_aload13n, ap_aload13o, aq_istore13, ap_astore13r, ap_astore13n, ap_astore13o, aq_iinc13, aq_iload14, ap_aload14r, ap_aload14n, ap_aload14o, aq_istore14, ap_astore14r, ap_astore14n, ap_astore14o, aq_iinc14, aq_iload15, ap_aload15r, ap_aload15n, ap_aload15o, aq_istore15, ap_astore15r, ap_astore15n, ap_astore15o, aq_iinc15, aq_iadd, aq_isub, aq_imul, aq_iand, aq_ior, aq_ixor, aq_ishl, aq_ishr, aq_iushr, aq_idiv, aq_i2l, aq_lcmp, aq_dup, aq_pop, aq_dupx1, aq_dup2, ap_ifeq, ap_ifne, ap_iflt, ap_ifge, ap_ifgt, ap_ifle, ap_iceq, ap_icne, ap_iclt, ap_icge, ap_icgt, ap_icle, ap_ifnullr, ap_ifnulln, ap_ifnullo, aq_getI, aq_getR, aq_putI, aq_putZ, ap_putRr, ap_putRn, ap_putRo, aq_new, aq_newarr, aq_ald, aq_lald, aq_aald, aq_alen, aq_ast, aq_zast, ap_last, aq_aast, ap_castr, aq_gste, aq_objinit, aq_mmax, aq_mmin, aq_dead, aq_iret, aq_zret, aq_aret, aq_vret, aq_throw, aq_callV0, aq_callI0, aq_callS0, aq_callV1, aq_callI1, aq_callS1, aq_callV2, aq_callI2, aq_callS2, aq_callV3, aq_callI3, aq_callS3, aq_callV4, aq_callI4, aq_callS4, aq_callV5, aq_callI5, aq_callS5, aq_callV6, aq_callI6, aq_callS6, aq_callV7, aq_callI7, aq_callS7, aq_callV8, aq_callI8, aq_callS8, aq_callV9, aq_callI9, aq_callS9, pushO, isRf_ref, isRf_null, isRf_rf, isC1_int, isC1_ref, isC1_null, isC1_rf, true_and, and_true, List.length_cons, List.length_nil, Nat.reduceAdd, Nat.reduceLeDiff, hK_sI, hN_sI, hR_sI, hI_sI, hK_sR, hN_sR, hR_sR, hI_sR, kC_2, kC_3, kC_4, kC_5, kC_6, kC_7, kC_8, kC_9, kC_10, kC_11, kC_20, kC_21, kC_22, kC_23, i2_0, i1_1, i0_1, i1_0, bI_and, bI_0, Decidable.not_not, not_false_eq_true, not_true_eq_false, forall_const, false_implies, true_implies, hK_copy, hN_copy, hI_copy, hC_sI, hC_sR, hC_new, hK_new, hN_new, hI_new, hR_new, rf_some, rf_none, ex_ref, ex_null, ex_rf, nref_null, rf_null, Nat.reduceEqDiff, reduceCtorEq, false_and, and_false, if_false, if_true, ne_eq, kO_150, kO_151, kO_152, kO_170, kO_180, kO_190, Value.ref.injEq, exists_eq_left', false_or, ↓reduceIte, and_self, not_true_eq_false, iF, hK_new, hN_new]
      exact ⟨⟨by decide, Nat.le_refl 12⟩, fun q hq => ⟨by decide, hK q hq⟩⟩
    · exact hT.elim
  · unfold T_X8_breaks at hT
    split at hT
    · exact ⟨Nat.le_of_ble_eq_true rfl, by simp [isC1_int, isC1_ref, isC1_null, isC1_rf]⟩
    · exact hT.elim
