/-- how long the model's arrays are, 0 for its numbers -/
def mLen (k : Nat) : Nat := if k = 0 ∨ k = 13 ∨ k = 26 ∨ k = 32 ∨ k = 33 ∨ k = 34 ∨ k = 36 ∨ k = 38 ∨ k = 39 ∨ k = 41 then 0 else if k ≤ 7 then 8 else if k ≤ 12 then 64 else if k ≤ 18 then 768 else if k ≤ 25 then 160 else if k ≤ 31 then 40 else if k = 35 then 8 else if k = 37 then 20 else 256
/-- a model that stands: its arrays -/
def mOK (h : hp_T) (m : Nat) : Prop := hK h m = 11 ∧ ∀ k, k < 42 → mLen k ≠ 0 → hR h (704 + k) m 0 = some (dR h (704 + k) m) ∧ hK h (dR h (704 + k) m) = 100 + k ∧ hN h (dR h (704 + k) m) = mLen k
/-- the model's numbers, by field and place -/
def mv (h : hp_T) (m k i : Nat) : Int32 := if mLen k = 0 then hI h (704 + k) m i else hI h (100 + k) (dR h (704 + k) m) i
abbrev sg_T : Type := Nat → Nat → Int32
def su (σ : sg_T) (k i : Nat) (v : Int32) : sg_T := fun k' i' => if k' = k ∧ i' = i then v else σ k' i'
theorem su_at (σ : sg_T) (k i : Nat) (v : Int32) (k' i' : Nat) : su σ k i v k' i' = if k' = k ∧ i' = i then v else σ k' i' := rfl
def sM (h : hp_T) (m : Nat) : sg_T := fun k i => if k < 34 then mv h m k i else 0
def RM (h : hp_T) (m : Nat) (σ : sg_T) : Prop := mOK h m ∧ sM h m = σ
theorem mOK_sI (h : hp_T) (f a j : Nat) (v : Int32) (m : Nat) : mOK (hsI h f a j v) m = mOK h m := rfl
theorem dR_sI (h : hp_T) (f a j : Nat) (v : Int32) (g b : Nat) : dR (hsI h f a j v) g b = dR h g b := rfl
theorem mo_h {h : hp_T} {m : Nat} (hm : mOK h m) : hK h m = 11 := hm.1
theorem mo_1 {h : hp_T} {m : Nat} (hm : mOK h m) : hR h 705 m 0 = some (dR h 705 m) ∧ hK h (dR h 705 m) = 101 ∧ hN h (dR h 705 m) = 8 := hm.2 1 (by decide) (by decide)
theorem mo_2 {h : hp_T} {m : Nat} (hm : mOK h m) : hR h 706 m 0 = some (dR h 706 m) ∧ hK h (dR h 706 m) = 102 ∧ hN h (dR h 706 m) = 8 := hm.2 2 (by decide) (by decide)
theorem mo_3 {h : hp_T} {m : Nat} (hm : mOK h m) : hR h 707 m 0 = some (dR h 707 m) ∧ hK h (dR h 707 m) = 103 ∧ hN h (dR h 707 m) = 8 := hm.2 3 (by decide) (by decide)
theorem mo_4 {h : hp_T} {m : Nat} (hm : mOK h m) : hR h 708 m 0 = some (dR h 708 m) ∧ hK h (dR h 708 m) = 104 ∧ hN h (dR h 708 m) = 8 := hm.2 4 (by decide) (by decide)
theorem mo_5 {h : hp_T} {m : Nat} (hm : mOK h m) : hR h 709 m 0 = some (dR h 709 m) ∧ hK h (dR h 709 m) = 105 ∧ hN h (dR h 709 m) = 8 := hm.2 5 (by decide) (by decide)
theorem mo_6 {h : hp_T} {m : Nat} (hm : mOK h m) : hR h 710 m 0 = some (dR h 710 m) ∧ hK h (dR h 710 m) = 106 ∧ hN h (dR h 710 m) = 8 := hm.2 6 (by decide) (by decide)
theorem mo_7 {h : hp_T} {m : Nat} (hm : mOK h m) : hR h 711 m 0 = some (dR h 711 m) ∧ hK h (dR h 711 m) = 107 ∧ hN h (dR h 711 m) = 8 := hm.2 7 (by decide) (by decide)
theorem mo_8 {h : hp_T} {m : Nat} (hm : mOK h m) : hR h 712 m 0 = some (dR h 712 m) ∧ hK h (dR h 712 m) = 108 ∧ hN h (dR h 712 m) = 64 := hm.2 8 (by decide) (by decide)
theorem mo_9 {h : hp_T} {m : Nat} (hm : mOK h m) : hR h 713 m 0 = some (dR h 713 m) ∧ hK h (dR h 713 m) = 109 ∧ hN h (dR h 713 m) = 64 := hm.2 9 (by decide) (by decide)
theorem mo_10 {h : hp_T} {m : Nat} (hm : mOK h m) : hR h 714 m 0 = some (dR h 714 m) ∧ hK h (dR h 714 m) = 110 ∧ hN h (dR h 714 m) = 64 := hm.2 10 (by decide) (by decide)
theorem mo_11 {h : hp_T} {m : Nat} (hm : mOK h m) : hR h 715 m 0 = some (dR h 715 m) ∧ hK h (dR h 715 m) = 111 ∧ hN h (dR h 715 m) = 64 := hm.2 11 (by decide) (by decide)
theorem mo_12 {h : hp_T} {m : Nat} (hm : mOK h m) : hR h 716 m 0 = some (dR h 716 m) ∧ hK h (dR h 716 m) = 112 ∧ hN h (dR h 716 m) = 64 := hm.2 12 (by decide) (by decide)
theorem mo_14 {h : hp_T} {m : Nat} (hm : mOK h m) : hR h 718 m 0 = some (dR h 718 m) ∧ hK h (dR h 718 m) = 114 ∧ hN h (dR h 718 m) = 768 := hm.2 14 (by decide) (by decide)
theorem mo_15 {h : hp_T} {m : Nat} (hm : mOK h m) : hR h 719 m 0 = some (dR h 719 m) ∧ hK h (dR h 719 m) = 115 ∧ hN h (dR h 719 m) = 768 := hm.2 15 (by decide) (by decide)
theorem mo_16 {h : hp_T} {m : Nat} (hm : mOK h m) : hR h 720 m 0 = some (dR h 720 m) ∧ hK h (dR h 720 m) = 116 ∧ hN h (dR h 720 m) = 768 := hm.2 16 (by decide) (by decide)
theorem mo_17 {h : hp_T} {m : Nat} (hm : mOK h m) : hR h 721 m 0 = some (dR h 721 m) ∧ hK h (dR h 721 m) = 117 ∧ hN h (dR h 721 m) = 768 := hm.2 17 (by decide) (by decide)
theorem mo_18 {h : hp_T} {m : Nat} (hm : mOK h m) : hR h 722 m 0 = some (dR h 722 m) ∧ hK h (dR h 722 m) = 118 ∧ hN h (dR h 722 m) = 768 := hm.2 18 (by decide) (by decide)
theorem mo_19 {h : hp_T} {m : Nat} (hm : mOK h m) : hR h 723 m 0 = some (dR h 723 m) ∧ hK h (dR h 723 m) = 119 ∧ hN h (dR h 723 m) = 160 := hm.2 19 (by decide) (by decide)
theorem mo_20 {h : hp_T} {m : Nat} (hm : mOK h m) : hR h 724 m 0 = some (dR h 724 m) ∧ hK h (dR h 724 m) = 120 ∧ hN h (dR h 724 m) = 160 := hm.2 20 (by decide) (by decide)
theorem mo_21 {h : hp_T} {m : Nat} (hm : mOK h m) : hR h 725 m 0 = some (dR h 725 m) ∧ hK h (dR h 725 m) = 121 ∧ hN h (dR h 725 m) = 160 := hm.2 21 (by decide) (by decide)
theorem mo_22 {h : hp_T} {m : Nat} (hm : mOK h m) : hR h 726 m 0 = some (dR h 726 m) ∧ hK h (dR h 726 m) = 122 ∧ hN h (dR h 726 m) = 160 := hm.2 22 (by decide) (by decide)
theorem mo_23 {h : hp_T} {m : Nat} (hm : mOK h m) : hR h 727 m 0 = some (dR h 727 m) ∧ hK h (dR h 727 m) = 123 ∧ hN h (dR h 727 m) = 160 := hm.2 23 (by decide) (by decide)
theorem mo_24 {h : hp_T} {m : Nat} (hm : mOK h m) : hR h 728 m 0 = some (dR h 728 m) ∧ hK h (dR h 728 m) = 124 ∧ hN h (dR h 728 m) = 160 := hm.2 24 (by decide) (by decide)
theorem mo_25 {h : hp_T} {m : Nat} (hm : mOK h m) : hR h 729 m 0 = some (dR h 729 m) ∧ hK h (dR h 729 m) = 125 ∧ hN h (dR h 729 m) = 160 := hm.2 25 (by decide) (by decide)
theorem mo_27 {h : hp_T} {m : Nat} (hm : mOK h m) : hR h 731 m 0 = some (dR h 731 m) ∧ hK h (dR h 731 m) = 127 ∧ hN h (dR h 731 m) = 40 := hm.2 27 (by decide) (by decide)
theorem mo_28 {h : hp_T} {m : Nat} (hm : mOK h m) : hR h 732 m 0 = some (dR h 732 m) ∧ hK h (dR h 732 m) = 128 ∧ hN h (dR h 732 m) = 40 := hm.2 28 (by decide) (by decide)
theorem mo_29 {h : hp_T} {m : Nat} (hm : mOK h m) : hR h 733 m 0 = some (dR h 733 m) ∧ hK h (dR h 733 m) = 129 ∧ hN h (dR h 733 m) = 40 := hm.2 29 (by decide) (by decide)
theorem mo_30 {h : hp_T} {m : Nat} (hm : mOK h m) : hR h 734 m 0 = some (dR h 734 m) ∧ hK h (dR h 734 m) = 130 ∧ hN h (dR h 734 m) = 40 := hm.2 30 (by decide) (by decide)
theorem mo_31 {h : hp_T} {m : Nat} (hm : mOK h m) : hR h 735 m 0 = some (dR h 735 m) ∧ hK h (dR h 735 m) = 131 ∧ hN h (dR h 735 m) = 40 := hm.2 31 (by decide) (by decide)
theorem mo_35 {h : hp_T} {m : Nat} (hm : mOK h m) : hR h 739 m 0 = some (dR h 739 m) ∧ hK h (dR h 739 m) = 135 ∧ hN h (dR h 739 m) = 8 := hm.2 35 (by decide) (by decide)
theorem mo_37 {h : hp_T} {m : Nat} (hm : mOK h m) : hR h 741 m 0 = some (dR h 741 m) ∧ hK h (dR h 741 m) = 137 ∧ hN h (dR h 741 m) = 20 := hm.2 37 (by decide) (by decide)
theorem mo_40 {h : hp_T} {m : Nat} (hm : mOK h m) : hR h 744 m 0 = some (dR h 744 m) ∧ hK h (dR h 744 m) = 140 ∧ hN h (dR h 744 m) = 256 := hm.2 40 (by decide) (by decide)
theorem rm_0 {h : hp_T} {m : Nat} {σ : sg_T} (hr : RM h m σ) : hI h 704 m 0 = σ 0 0 := by rw [← hr.2]; rfl
theorem rs_0 (h : hp_T) (m : Nat) : hI h 704 m 0 = sM h m 0 0 := rfl
theorem rm_1 {h : hp_T} {m : Nat} {σ : sg_T} (hr : RM h m σ) (i : Nat) : hI h 101 (dR h 705 m) i = σ 1 i := by rw [← hr.2]; rfl
theorem rs_1 (h : hp_T) (m i : Nat) : hI h 101 (dR h 705 m) i = sM h m 1 i := rfl
theorem rm_2 {h : hp_T} {m : Nat} {σ : sg_T} (hr : RM h m σ) (i : Nat) : hI h 102 (dR h 706 m) i = σ 2 i := by rw [← hr.2]; rfl
theorem rs_2 (h : hp_T) (m i : Nat) : hI h 102 (dR h 706 m) i = sM h m 2 i := rfl
theorem rm_3 {h : hp_T} {m : Nat} {σ : sg_T} (hr : RM h m σ) (i : Nat) : hI h 103 (dR h 707 m) i = σ 3 i := by rw [← hr.2]; rfl
theorem rs_3 (h : hp_T) (m i : Nat) : hI h 103 (dR h 707 m) i = sM h m 3 i := rfl
theorem rm_4 {h : hp_T} {m : Nat} {σ : sg_T} (hr : RM h m σ) (i : Nat) : hI h 104 (dR h 708 m) i = σ 4 i := by rw [← hr.2]; rfl
theorem rs_4 (h : hp_T) (m i : Nat) : hI h 104 (dR h 708 m) i = sM h m 4 i := rfl
theorem rm_5 {h : hp_T} {m : Nat} {σ : sg_T} (hr : RM h m σ) (i : Nat) : hI h 105 (dR h 709 m) i = σ 5 i := by rw [← hr.2]; rfl
theorem rs_5 (h : hp_T) (m i : Nat) : hI h 105 (dR h 709 m) i = sM h m 5 i := rfl
theorem rm_6 {h : hp_T} {m : Nat} {σ : sg_T} (hr : RM h m σ) (i : Nat) : hI h 106 (dR h 710 m) i = σ 6 i := by rw [← hr.2]; rfl
theorem rs_6 (h : hp_T) (m i : Nat) : hI h 106 (dR h 710 m) i = sM h m 6 i := rfl
theorem rm_7 {h : hp_T} {m : Nat} {σ : sg_T} (hr : RM h m σ) (i : Nat) : hI h 107 (dR h 711 m) i = σ 7 i := by rw [← hr.2]; rfl
theorem rs_7 (h : hp_T) (m i : Nat) : hI h 107 (dR h 711 m) i = sM h m 7 i := rfl
theorem rm_8 {h : hp_T} {m : Nat} {σ : sg_T} (hr : RM h m σ) (i : Nat) : hI h 108 (dR h 712 m) i = σ 8 i := by rw [← hr.2]; rfl
theorem rs_8 (h : hp_T) (m i : Nat) : hI h 108 (dR h 712 m) i = sM h m 8 i := rfl
theorem rm_9 {h : hp_T} {m : Nat} {σ : sg_T} (hr : RM h m σ) (i : Nat) : hI h 109 (dR h 713 m) i = σ 9 i := by rw [← hr.2]; rfl
theorem rs_9 (h : hp_T) (m i : Nat) : hI h 109 (dR h 713 m) i = sM h m 9 i := rfl
theorem rm_10 {h : hp_T} {m : Nat} {σ : sg_T} (hr : RM h m σ) (i : Nat) : hI h 110 (dR h 714 m) i = σ 10 i := by rw [← hr.2]; rfl
theorem rs_10 (h : hp_T) (m i : Nat) : hI h 110 (dR h 714 m) i = sM h m 10 i := rfl
theorem rm_11 {h : hp_T} {m : Nat} {σ : sg_T} (hr : RM h m σ) (i : Nat) : hI h 111 (dR h 715 m) i = σ 11 i := by rw [← hr.2]; rfl
theorem rs_11 (h : hp_T) (m i : Nat) : hI h 111 (dR h 715 m) i = sM h m 11 i := rfl
theorem rm_12 {h : hp_T} {m : Nat} {σ : sg_T} (hr : RM h m σ) (i : Nat) : hI h 112 (dR h 716 m) i = σ 12 i := by rw [← hr.2]; rfl
theorem rs_12 (h : hp_T) (m i : Nat) : hI h 112 (dR h 716 m) i = sM h m 12 i := rfl
theorem rm_13 {h : hp_T} {m : Nat} {σ : sg_T} (hr : RM h m σ) : hI h 717 m 0 = σ 13 0 := by rw [← hr.2]; rfl
theorem rs_13 (h : hp_T) (m : Nat) : hI h 717 m 0 = sM h m 13 0 := rfl
theorem rm_14 {h : hp_T} {m : Nat} {σ : sg_T} (hr : RM h m σ) (i : Nat) : hI h 114 (dR h 718 m) i = σ 14 i := by rw [← hr.2]; rfl
theorem rs_14 (h : hp_T) (m i : Nat) : hI h 114 (dR h 718 m) i = sM h m 14 i := rfl
theorem rm_15 {h : hp_T} {m : Nat} {σ : sg_T} (hr : RM h m σ) (i : Nat) : hI h 115 (dR h 719 m) i = σ 15 i := by rw [← hr.2]; rfl
theorem rs_15 (h : hp_T) (m i : Nat) : hI h 115 (dR h 719 m) i = sM h m 15 i := rfl
theorem rm_16 {h : hp_T} {m : Nat} {σ : sg_T} (hr : RM h m σ) (i : Nat) : hI h 116 (dR h 720 m) i = σ 16 i := by rw [← hr.2]; rfl
theorem rs_16 (h : hp_T) (m i : Nat) : hI h 116 (dR h 720 m) i = sM h m 16 i := rfl
theorem rm_17 {h : hp_T} {m : Nat} {σ : sg_T} (hr : RM h m σ) (i : Nat) : hI h 117 (dR h 721 m) i = σ 17 i := by rw [← hr.2]; rfl
theorem rs_17 (h : hp_T) (m i : Nat) : hI h 117 (dR h 721 m) i = sM h m 17 i := rfl
theorem rm_18 {h : hp_T} {m : Nat} {σ : sg_T} (hr : RM h m σ) (i : Nat) : hI h 118 (dR h 722 m) i = σ 18 i := by rw [← hr.2]; rfl
theorem rs_18 (h : hp_T) (m i : Nat) : hI h 118 (dR h 722 m) i = sM h m 18 i := rfl
theorem rm_19 {h : hp_T} {m : Nat} {σ : sg_T} (hr : RM h m σ) (i : Nat) : hI h 119 (dR h 723 m) i = σ 19 i := by rw [← hr.2]; rfl
theorem rs_19 (h : hp_T) (m i : Nat) : hI h 119 (dR h 723 m) i = sM h m 19 i := rfl
theorem rm_20 {h : hp_T} {m : Nat} {σ : sg_T} (hr : RM h m σ) (i : Nat) : hI h 120 (dR h 724 m) i = σ 20 i := by rw [← hr.2]; rfl
theorem rs_20 (h : hp_T) (m i : Nat) : hI h 120 (dR h 724 m) i = sM h m 20 i := rfl
theorem rm_21 {h : hp_T} {m : Nat} {σ : sg_T} (hr : RM h m σ) (i : Nat) : hI h 121 (dR h 725 m) i = σ 21 i := by rw [← hr.2]; rfl
theorem rs_21 (h : hp_T) (m i : Nat) : hI h 121 (dR h 725 m) i = sM h m 21 i := rfl
theorem rm_22 {h : hp_T} {m : Nat} {σ : sg_T} (hr : RM h m σ) (i : Nat) : hI h 122 (dR h 726 m) i = σ 22 i := by rw [← hr.2]; rfl
theorem rs_22 (h : hp_T) (m i : Nat) : hI h 122 (dR h 726 m) i = sM h m 22 i := rfl
theorem rm_23 {h : hp_T} {m : Nat} {σ : sg_T} (hr : RM h m σ) (i : Nat) : hI h 123 (dR h 727 m) i = σ 23 i := by rw [← hr.2]; rfl
theorem rs_23 (h : hp_T) (m i : Nat) : hI h 123 (dR h 727 m) i = sM h m 23 i := rfl
theorem rm_24 {h : hp_T} {m : Nat} {σ : sg_T} (hr : RM h m σ) (i : Nat) : hI h 124 (dR h 728 m) i = σ 24 i := by rw [← hr.2]; rfl
theorem rs_24 (h : hp_T) (m i : Nat) : hI h 124 (dR h 728 m) i = sM h m 24 i := rfl
theorem rm_25 {h : hp_T} {m : Nat} {σ : sg_T} (hr : RM h m σ) (i : Nat) : hI h 125 (dR h 729 m) i = σ 25 i := by rw [← hr.2]; rfl
theorem rs_25 (h : hp_T) (m i : Nat) : hI h 125 (dR h 729 m) i = sM h m 25 i := rfl
theorem rm_26 {h : hp_T} {m : Nat} {σ : sg_T} (hr : RM h m σ) : hI h 730 m 0 = σ 26 0 := by rw [← hr.2]; rfl
theorem rs_26 (h : hp_T) (m : Nat) : hI h 730 m 0 = sM h m 26 0 := rfl
theorem rm_27 {h : hp_T} {m : Nat} {σ : sg_T} (hr : RM h m σ) (i : Nat) : hI h 127 (dR h 731 m) i = σ 27 i := by rw [← hr.2]; rfl
theorem rs_27 (h : hp_T) (m i : Nat) : hI h 127 (dR h 731 m) i = sM h m 27 i := rfl
theorem rm_28 {h : hp_T} {m : Nat} {σ : sg_T} (hr : RM h m σ) (i : Nat) : hI h 128 (dR h 732 m) i = σ 28 i := by rw [← hr.2]; rfl
theorem rs_28 (h : hp_T) (m i : Nat) : hI h 128 (dR h 732 m) i = sM h m 28 i := rfl
theorem rm_29 {h : hp_T} {m : Nat} {σ : sg_T} (hr : RM h m σ) (i : Nat) : hI h 129 (dR h 733 m) i = σ 29 i := by rw [← hr.2]; rfl
theorem rs_29 (h : hp_T) (m i : Nat) : hI h 129 (dR h 733 m) i = sM h m 29 i := rfl
theorem rm_30 {h : hp_T} {m : Nat} {σ : sg_T} (hr : RM h m σ) (i : Nat) : hI h 130 (dR h 734 m) i = σ 30 i := by rw [← hr.2]; rfl
theorem rs_30 (h : hp_T) (m i : Nat) : hI h 130 (dR h 734 m) i = sM h m 30 i := rfl
theorem rm_31 {h : hp_T} {m : Nat} {σ : sg_T} (hr : RM h m σ) (i : Nat) : hI h 131 (dR h 735 m) i = σ 31 i := by rw [← hr.2]; rfl
theorem rs_31 (h : hp_T) (m i : Nat) : hI h 131 (dR h 735 m) i = sM h m 31 i := rfl
theorem rm_32 {h : hp_T} {m : Nat} {σ : sg_T} (hr : RM h m σ) : hI h 736 m 0 = σ 32 0 := by rw [← hr.2]; rfl
theorem rs_32 (h : hp_T) (m : Nat) : hI h 736 m 0 = sM h m 32 0 := rfl
theorem rm_33 {h : hp_T} {m : Nat} {σ : sg_T} (hr : RM h m σ) : hI h 737 m 0 = σ 33 0 := by rw [← hr.2]; rfl
theorem rs_33 (h : hp_T) (m : Nat) : hI h 737 m 0 = sM h m 33 0 := rfl
theorem mv_a (h : hp_T) (m : Nat) {k : Nat} (h4 : k < 42) (hk : mLen k ≠ 0) (j : Nat) (v : Int32) (k' i : Nat) (h1 : k' < 42) : mv (hsI h (100 + k) (dR h (704 + k) m) j v) m k' i = if k' = k ∧ i = j then v else mv h m k' i := by
  unfold mv
  by_cases c : mLen k' = 0
  · rw [if_pos c, if_pos c, hI_sI, if_neg (by omega), if_neg (fun (z : k' = k ∧ i = j) => hk (z.1 ▸ c))]
  · rw [if_neg c, if_neg c, hI_sI, dR_sI]
    by_cases e : k' = k
    · subst e
      by_cases f : i = j
      · rw [if_pos ⟨rfl, rfl, f⟩, if_pos ⟨rfl, f⟩]
      · rw [if_neg (fun z => f z.2.2), if_neg (fun z => f z.2)]
    · rw [if_neg (by omega), if_neg (fun z => e z.1)]
theorem mv_s (h : hp_T) (m : Nat) {k : Nat} (hk : mLen k = 0) (v : Int32) (k' i : Nat) (h1 : k' < 42) : mv (hsI h (704 + k) m 0 v) m k' i = if k' = k ∧ i = 0 then v else mv h m k' i := by
  unfold mv
  by_cases c : mLen k' = 0
  · rw [if_pos c, if_pos c, hI_sI]
    by_cases e : k' = k
    · subst e
      by_cases f : i = 0
      · rw [if_pos ⟨rfl, rfl, f⟩, if_pos ⟨rfl, f⟩]
      · rw [if_neg (fun z => f z.2.2), if_neg (fun z => f z.2)]
    · rw [if_neg (by omega), if_neg (fun z => e z.1)]
  · rw [if_neg c, if_neg c, hI_sI, dR_sI, if_neg (by omega), if_neg (fun (z : k' = k ∧ i = 0) => c (z.1 ▸ hk))]
theorem sM_a (h : hp_T) (m : Nat) {k : Nat} (h4 : k < 34) (hk : mLen k ≠ 0) (j : Nat) (v : Int32) : sM (hsI h (100 + k) (dR h (704 + k) m) j v) m = su (sM h m) k j v := by
  funext k' i
  rw [su_at]
  unfold sM
  by_cases c : k' < 34
  · rw [if_pos c, if_pos c, mv_a h m (by omega) hk j v k' i (by omega)]
  · rw [if_neg c, if_neg c, if_neg (by omega)]
theorem sM_b (h : hp_T) (m : Nat) {k : Nat} (h4 : k < 34) (hk : mLen k ≠ 0) (a j : Nat) (v : Int32) : sM (hsI h (100 + k) a j v) m = if dR h (704 + k) m = a then su (sM h m) k j v else sM h m := by
  split
  · next e => rw [← e]; exact sM_a h m h4 hk j v
  · next e =>
    funext k' i
    unfold sM
    by_cases c : k' < 34
    · rw [if_pos c, if_pos c]
      unfold mv
      by_cases d : mLen k' = 0
      · rw [if_pos d, if_pos d, hI_sI, if_neg (by omega)]
      · rw [if_neg d, if_neg d, hI_sI, dR_sI, if_neg (fun z => ?_)]
        obtain ⟨z1, z2, -⟩ := z
        have : k' = k := by omega
        rw [this] at z2
        exact e z2
    · rw [if_neg c, if_neg c]
theorem sM_c {c : Prop} [Decidable c] {σ : sg_T} {k j : Nat} {v : Int32} {k' i : Nat} : (if c then su σ k j v else σ) k' i = if c ∧ k' = k ∧ i = j then v else σ k' i := by
  by_cases h : c
  · rw [if_pos h, su_at]
    by_cases e : k' = k ∧ i = j
    · rw [if_pos e, if_pos ⟨h, e⟩]
    · rw [if_neg e, if_neg (fun z => e z.2)]
  · rw [if_neg h, if_neg (fun z => h z.1)]
theorem sM_n (h : hp_T) (m : Nat) {k : Nat} (h4 : k < 34) (hk : mLen k = 0) (v : Int32) : sM (hsI h (704 + k) m 0 v) m = su (sM h m) k 0 v := by
  funext k' i
  rw [su_at]
  unfold sM
  by_cases c : k' < 34
  · rw [if_pos c, if_pos c, mv_s h m hk v k' i (by omega)]
  · rw [if_neg c, if_neg c, if_neg (by omega)]
theorem sM_x (h : hp_T) (m : Nat) {f : Nat} (hf : (134 ≤ f ∧ f ≤ 141) ∨ 738 ≤ f) (a j : Nat) (v : Int32) : sM (hsI h f a j v) m = sM h m := by
  funext k i
  unfold sM
  by_cases c : k < 34
  · rw [if_pos c, if_pos c]
    unfold mv
    split
    · rw [hI_sI, if_neg (by omega)]
    · rw [hI_sI, if_neg (by omega)]; rfl
  · rw [if_neg c, if_neg c]
/-- the kinds of the model's cells, and of the law's own -/
def mK0 (k : Nat) : Bool := k == 11 || (Nat.ble 100 k && Nat.ble k 141)
def mK (k : Nat) : Bool := mK0 k || k == 180
theorem mK_0 {k : Nat} (h : mK k = false) : mK0 k = false := by unfold mK at h; exact (Bool.or_eq_false_iff.mp h).1
/-- only the model's numbers have changed -/
def CFr (h h' : hp_T) : Prop := (∀ b, hK h' b = hK h b ∧ hN h' b = hN h b ∧ ∀ g i, hR h' g b i = hR h g b i) ∧ (∀ i, hC h' i = hC h i) ∧ ∀ b, mK0 (hK h b) = false → ∀ g i, hI h' g b i = hI h g b i
theorem CFr.rfl {h : hp_T} : CFr h h := ⟨fun _ => ⟨Eq.refl _, Eq.refl _, fun _ _ => Eq.refl _⟩, fun _ => Eq.refl _, fun _ _ _ _ => Eq.refl _⟩
theorem CFr.trans {h h1 h2 : hp_T} (a : CFr h h1) (b : CFr h1 h2) : CFr h h2 :=
  ⟨fun x => ⟨(b.1 x).1.trans (a.1 x).1, (b.1 x).2.1.trans (a.1 x).2.1, fun g i => ((b.1 x).2.2 g i).trans ((a.1 x).2.2 g i)⟩, fun i => (b.2.1 i).trans (a.2.1 i), fun x hx g i => (b.2.2 x (by rw [(a.1 x).1]; exact hx) g i).trans (a.2.2 x hx g i)⟩
theorem CFr.sI {h h1 : hp_T} (a : CFr h h1) {f b j : Nat} {v : Int32} (k : mK0 (hK h1 b) = true) : CFr h (hsI h1 f b j v) :=
  a.trans ⟨fun _ => ⟨Eq.refl _, Eq.refl _, fun _ _ => Eq.refl _⟩, fun _ => Eq.refl _, fun x hx g i => by rw [hI_sI, if_neg (fun z => by rw [z.2.1, k] at hx; cases hx)]⟩
theorem CFr.arr {h h1 : hp_T} {m : Nat} (a : CFr h h1) (hm : mOK h1 m) (k : Nat) (h4 : k < 42) (hk : mLen k ≠ 0) (j : Nat) (v : Int32) : CFr h (hsI h1 (100 + k) (dR h1 (704 + k) m) j v) :=
  a.sI (by rw [(hm.2 k h4 hk).2.1]; unfold mK0; simp; omega)
theorem CFr.num {h h1 : hp_T} {m : Nat} (a : CFr h h1) (hm : mOK h1 m) (k : Nat) (v : Int32) : CFr h (hsI h1 (704 + k) m 0 v) := a.sI (by rw [hm.1]; decide)
theorem CFr.ok {h h1 : hp_T} {m : Nat} (a : CFr h h1) (hm : mOK h m) : mOK h1 m ∧ ∀ k, k < 42 → mLen k ≠ 0 → dR h1 (704 + k) m = dR h (704 + k) m := by
  have d : ∀ f, dR h1 f m = dR h f m := fun f => by unfold dR; rw [(a.1 m).2.2]
  refine ⟨⟨(a.1 m).1.trans hm.1, fun k h1 h2 => ?_⟩, fun k _ _ => d _⟩
  rw [d, (a.1 m).2.2, (a.1 _).1, (a.1 _).2.1]
  exact hm.2 k h1 h2
/-- no cell of the model has changed -/
def MFr (h h' : hp_T) : Prop := ∀ b, mK (hK h b) = true → sameAt h h' b
theorem MFr.rfl {h : hp_T} : MFr h h := fun _ _ => ⟨Eq.refl _, Eq.refl _, fun _ _ => ⟨Eq.refl _, Eq.refl _⟩⟩
theorem MFr.trans {h h1 h2 : hp_T} (a : MFr h h1) (b : MFr h1 h2) : MFr h h2 := fun x hx => by
  obtain ⟨a1, a2, a3⟩ := a x hx
  obtain ⟨b1, b2, b3⟩ := b x (by rw [a1]; exact hx)
  exact ⟨b1.trans a1, b2.trans a2, fun g i => ⟨((b3 g i).1).trans (a3 g i).1, ((b3 g i).2).trans (a3 g i).2⟩⟩
theorem MFr.of_ext {h h' : hp_T} (e : Ext h h') : MFr h h' := fun b hb => e.1 b (fun z => by rw [z] at hb; cases hb)
theorem mK_arr {k : Nat} (h : k < 42) : mK (100 + k) = true := by unfold mK mK0; simp; omega
theorem RM.mfr {h h' : hp_T} {m : Nat} {σ : sg_T} (r : RM h m σ) (a : MFr h h') : RM h' m σ := by
  obtain ⟨⟨r1, r2⟩, rfl⟩ := r
  obtain ⟨a1, a2, a3⟩ := a m (by rw [r1]; rfl)
  have d : ∀ f, dR h' f m = dR h f m := fun f => by unfold dR; rw [(a3 f 0).2]
  refine ⟨⟨a1.trans r1, fun k h1 h2 => ?_⟩, ?_⟩
  · obtain ⟨b1, b2, b3⟩ := r2 k h1 h2
    obtain ⟨c1, c2, c3⟩ := a (dR h (704 + k) m) (by rw [b2]; exact mK_arr h1)
    rw [d, (a3 _ _).2, c1, c2]
    exact ⟨b1, b2, b3⟩
  · funext k i
    unfold sM
    split
    · next hk =>
      unfold mv
      split
      · exact (a3 _ _).1
      · next c =>
        rw [d]
        exact ((a _ (by rw [(r2 k (by omega) c).2.1]; exact mK_arr (by omega))).2.2 _ _).1
    · rfl
theorem pk_in' {a n : Nat} (h : a < n) (hn : n < 1000) : vp_in (nI a) n := vp_in_nI h (by omega)
theorem nI_m8 (a : Nat) : 8 * nI a = nI (8 * a) := pk_mul 8 a
theorem nI_m12 (a : Nat) : 12 * nI a = nI (12 * a) := pk_mul 12 a
theorem nI_m20 (a : Nat) : 20 * nI a = nI (20 * a) := pk_mul 20 a
/-- v lies between a and b -/
def btw (v a b : Int32) : Prop := (a ≤ v ∧ v ≤ b) ∨ (b ≤ v ∧ v ≤ a)
def mtM (a b c d : Int32) : Prop := a < c + d ∧ c < a + b
def pgM (σ : sg_T) (v : Int32) : Prop := 0 ≤ v ∧ v ≤ σ 0 0 - 1
def pnM (σ : sg_T) (v w : Int32) : Prop := pgM σ v ∧ 0 ≤ w ∧ w ≤ σ 2 v.toNatClampNeg - 1
def blM (σ : sg_T) (v w : Int32) : Prop := pgM σ v ∧ 0 ≤ w ∧ w ≤ σ 3 v.toNatClampNeg - 1
def sgI (x : Int32) : Int32 := if 0 < x then 1 else if x < 0 then -1 else 0
def trn (a b c d e f : Int32) : Int32 := sgI ((c - a) * (f - b) - (d - b) * (e - a))
def crsT (t1 t2 t3 t4 a b c d e f g i : Int32) : Prop := ((((¬ t1 = t2 ∧ ¬ t3 = t4 ∧ t1 * t2 ≤ 0 ∧ t3 * t4 ≤ 0 ∧ ¬ (t1 = 0 ∧ t2 = 0)) ∨ (t1 = 0 ∧ btw e a c ∧ btw f b d)) ∨ (t2 = 0 ∧ btw g a c ∧ btw i b d)) ∨ (t3 = 0 ∧ btw a e g ∧ btw b f i)) ∨ (t4 = 0 ∧ btw c e g ∧ btw d f i)
def crs (a b c d e f g i : Int32) : Prop := crsT (trn a b c d e f) (trn a b c d g i) (trn e f g i a b) (trn e f g i c d) a b c d e f g i
/-- the line meets the rectangle -/
def hitM (a b c d x y w h : Int32) : Prop := ((((btw a x (x + w) ∧ btw b y (y + h)) ∨ (btw c x (x + w) ∧ btw d y (y + h))) ∨ crs a b c d x y (x + w) y) ∨ crs a b c d x (y + h) (x + w) (y + h)) ∨ crs a b c d x y x (y + h) ∨ crs a b c d (x + w) y (x + w) (y + h)
/-- panel a has to come ahead of panel b -/
def ahM (σ : sg_T) (p a b : Nat) (l : Int32) : Prop := ¬ a = b ∧ (σ 10 (8 * p + a) + σ 12 (8 * p + a) ≤ σ 10 (8 * p + b) ∨ (mtM (σ 10 (8 * p + a)) (σ 12 (8 * p + a)) (σ 10 (8 * p + b)) (σ 12 (8 * p + b)) ∧ (if l = 0 then σ 9 (8 * p + a) + σ 11 (8 * p + a) ≤ σ 9 (8 * p + b) else σ 9 (8 * p + b) + σ 11 (8 * p + b) ≤ σ 9 (8 * p + a))))
def oI (o : Option Nat) : Int32 := match o with
  | some i => nI i
  | none => -1
/-- the drawing of a balloon's speaker -/
def tailM (σ : sg_T) (p k : Nat) : Option Nat := if σ 24 (20 * p + k) = -1 then none else if 0 < σ 16 (12 * (8 * p + (σ 19 (20 * p + k)).toNatClampNeg) + (σ 24 (20 * p + k)).toNatClampNeg) then some (12 * (8 * p + (σ 19 (20 * p + k)).toNatClampNeg) + (σ 24 (20 * p + k)).toNatClampNeg) else none
def tlM (σ : sg_T) (p k : Nat) : Prop := ∃ j, j < 8 ∧ σ 19 (20 * p + k) = nI j ∧ (σ 24 (20 * p + k) = -1 ∨ ∃ f, f < 12 ∧ σ 24 (20 * p + k) = nI f)
def alg (a b c d e f : Int32) : Prop := trn e f a b c d = 0 ∧ 0 < (a - e) * (c - e) + (b - f) * (d - f)
theorem sw_0 (h : hp_T) (m : Nat) (v : Int32) : sM (hsI h 704 m 0 v) m = su (sM h m) 0 0 v := sM_n h m (k := 0) (by decide) (by decide) v
theorem sw_1 (h : hp_T) (m a j : Nat) (v : Int32) : sM (hsI h 101 a j v) m = if dR h 705 m = a then su (sM h m) 1 j v else sM h m := sM_b h m (k := 1) (by decide) (by decide) a j v
theorem sw_2 (h : hp_T) (m a j : Nat) (v : Int32) : sM (hsI h 102 a j v) m = if dR h 706 m = a then su (sM h m) 2 j v else sM h m := sM_b h m (k := 2) (by decide) (by decide) a j v
theorem sw_3 (h : hp_T) (m a j : Nat) (v : Int32) : sM (hsI h 103 a j v) m = if dR h 707 m = a then su (sM h m) 3 j v else sM h m := sM_b h m (k := 3) (by decide) (by decide) a j v
theorem sw_4 (h : hp_T) (m a j : Nat) (v : Int32) : sM (hsI h 104 a j v) m = if dR h 708 m = a then su (sM h m) 4 j v else sM h m := sM_b h m (k := 4) (by decide) (by decide) a j v
theorem sw_5 (h : hp_T) (m a j : Nat) (v : Int32) : sM (hsI h 105 a j v) m = if dR h 709 m = a then su (sM h m) 5 j v else sM h m := sM_b h m (k := 5) (by decide) (by decide) a j v
theorem sw_6 (h : hp_T) (m a j : Nat) (v : Int32) : sM (hsI h 106 a j v) m = if dR h 710 m = a then su (sM h m) 6 j v else sM h m := sM_b h m (k := 6) (by decide) (by decide) a j v
theorem sw_7 (h : hp_T) (m a j : Nat) (v : Int32) : sM (hsI h 107 a j v) m = if dR h 711 m = a then su (sM h m) 7 j v else sM h m := sM_b h m (k := 7) (by decide) (by decide) a j v
theorem sw_8 (h : hp_T) (m a j : Nat) (v : Int32) : sM (hsI h 108 a j v) m = if dR h 712 m = a then su (sM h m) 8 j v else sM h m := sM_b h m (k := 8) (by decide) (by decide) a j v
theorem sw_9 (h : hp_T) (m a j : Nat) (v : Int32) : sM (hsI h 109 a j v) m = if dR h 713 m = a then su (sM h m) 9 j v else sM h m := sM_b h m (k := 9) (by decide) (by decide) a j v
theorem sw_10 (h : hp_T) (m a j : Nat) (v : Int32) : sM (hsI h 110 a j v) m = if dR h 714 m = a then su (sM h m) 10 j v else sM h m := sM_b h m (k := 10) (by decide) (by decide) a j v
theorem sw_11 (h : hp_T) (m a j : Nat) (v : Int32) : sM (hsI h 111 a j v) m = if dR h 715 m = a then su (sM h m) 11 j v else sM h m := sM_b h m (k := 11) (by decide) (by decide) a j v
theorem sw_12 (h : hp_T) (m a j : Nat) (v : Int32) : sM (hsI h 112 a j v) m = if dR h 716 m = a then su (sM h m) 12 j v else sM h m := sM_b h m (k := 12) (by decide) (by decide) a j v
theorem sw_13 (h : hp_T) (m : Nat) (v : Int32) : sM (hsI h 717 m 0 v) m = su (sM h m) 13 0 v := sM_n h m (k := 13) (by decide) (by decide) v
theorem sw_14 (h : hp_T) (m a j : Nat) (v : Int32) : sM (hsI h 114 a j v) m = if dR h 718 m = a then su (sM h m) 14 j v else sM h m := sM_b h m (k := 14) (by decide) (by decide) a j v
theorem sw_15 (h : hp_T) (m a j : Nat) (v : Int32) : sM (hsI h 115 a j v) m = if dR h 719 m = a then su (sM h m) 15 j v else sM h m := sM_b h m (k := 15) (by decide) (by decide) a j v
theorem sw_16 (h : hp_T) (m a j : Nat) (v : Int32) : sM (hsI h 116 a j v) m = if dR h 720 m = a then su (sM h m) 16 j v else sM h m := sM_b h m (k := 16) (by decide) (by decide) a j v
theorem sw_17 (h : hp_T) (m a j : Nat) (v : Int32) : sM (hsI h 117 a j v) m = if dR h 721 m = a then su (sM h m) 17 j v else sM h m := sM_b h m (k := 17) (by decide) (by decide) a j v
theorem sw_18 (h : hp_T) (m a j : Nat) (v : Int32) : sM (hsI h 118 a j v) m = if dR h 722 m = a then su (sM h m) 18 j v else sM h m := sM_b h m (k := 18) (by decide) (by decide) a j v
theorem sw_19 (h : hp_T) (m a j : Nat) (v : Int32) : sM (hsI h 119 a j v) m = if dR h 723 m = a then su (sM h m) 19 j v else sM h m := sM_b h m (k := 19) (by decide) (by decide) a j v
theorem sw_20 (h : hp_T) (m a j : Nat) (v : Int32) : sM (hsI h 120 a j v) m = if dR h 724 m = a then su (sM h m) 20 j v else sM h m := sM_b h m (k := 20) (by decide) (by decide) a j v
theorem sw_21 (h : hp_T) (m a j : Nat) (v : Int32) : sM (hsI h 121 a j v) m = if dR h 725 m = a then su (sM h m) 21 j v else sM h m := sM_b h m (k := 21) (by decide) (by decide) a j v
theorem sw_22 (h : hp_T) (m a j : Nat) (v : Int32) : sM (hsI h 122 a j v) m = if dR h 726 m = a then su (sM h m) 22 j v else sM h m := sM_b h m (k := 22) (by decide) (by decide) a j v
theorem sw_23 (h : hp_T) (m a j : Nat) (v : Int32) : sM (hsI h 123 a j v) m = if dR h 727 m = a then su (sM h m) 23 j v else sM h m := sM_b h m (k := 23) (by decide) (by decide) a j v
theorem sw_24 (h : hp_T) (m a j : Nat) (v : Int32) : sM (hsI h 124 a j v) m = if dR h 728 m = a then su (sM h m) 24 j v else sM h m := sM_b h m (k := 24) (by decide) (by decide) a j v
theorem sw_25 (h : hp_T) (m a j : Nat) (v : Int32) : sM (hsI h 125 a j v) m = if dR h 729 m = a then su (sM h m) 25 j v else sM h m := sM_b h m (k := 25) (by decide) (by decide) a j v
theorem sw_26 (h : hp_T) (m : Nat) (v : Int32) : sM (hsI h 730 m 0 v) m = su (sM h m) 26 0 v := sM_n h m (k := 26) (by decide) (by decide) v
theorem sw_27 (h : hp_T) (m a j : Nat) (v : Int32) : sM (hsI h 127 a j v) m = if dR h 731 m = a then su (sM h m) 27 j v else sM h m := sM_b h m (k := 27) (by decide) (by decide) a j v
theorem sw_28 (h : hp_T) (m a j : Nat) (v : Int32) : sM (hsI h 128 a j v) m = if dR h 732 m = a then su (sM h m) 28 j v else sM h m := sM_b h m (k := 28) (by decide) (by decide) a j v
theorem sw_29 (h : hp_T) (m a j : Nat) (v : Int32) : sM (hsI h 129 a j v) m = if dR h 733 m = a then su (sM h m) 29 j v else sM h m := sM_b h m (k := 29) (by decide) (by decide) a j v
theorem sw_30 (h : hp_T) (m a j : Nat) (v : Int32) : sM (hsI h 130 a j v) m = if dR h 734 m = a then su (sM h m) 30 j v else sM h m := sM_b h m (k := 30) (by decide) (by decide) a j v
theorem sw_31 (h : hp_T) (m a j : Nat) (v : Int32) : sM (hsI h 131 a j v) m = if dR h 735 m = a then su (sM h m) 31 j v else sM h m := sM_b h m (k := 31) (by decide) (by decide) a j v
theorem sw_32 (h : hp_T) (m : Nat) (v : Int32) : sM (hsI h 736 m 0 v) m = su (sM h m) 32 0 v := sM_n h m (k := 32) (by decide) (by decide) v
theorem sw_33 (h : hp_T) (m : Nat) (v : Int32) : sM (hsI h 737 m 0 v) m = su (sM h m) 33 0 v := sM_n h m (k := 33) (by decide) (by decide) v
theorem sq_0 (h : hp_T) (m : Nat) (v : Int32) (k i : Nat) : sM (hsI h 704 m 0 v) m k i = if k = 0 ∧ i = 0 then v else sM h m k i := by rw [sw_0]; rfl
theorem sq_1 (h : hp_T) (m a j : Nat) (v : Int32) (k i : Nat) : sM (hsI h 101 a j v) m k i = if dR h 705 m = a ∧ k = 1 ∧ i = j then v else sM h m k i := by rw [sw_1]; exact sM_c
theorem sq_2 (h : hp_T) (m a j : Nat) (v : Int32) (k i : Nat) : sM (hsI h 102 a j v) m k i = if dR h 706 m = a ∧ k = 2 ∧ i = j then v else sM h m k i := by rw [sw_2]; exact sM_c
theorem sq_3 (h : hp_T) (m a j : Nat) (v : Int32) (k i : Nat) : sM (hsI h 103 a j v) m k i = if dR h 707 m = a ∧ k = 3 ∧ i = j then v else sM h m k i := by rw [sw_3]; exact sM_c
theorem sq_4 (h : hp_T) (m a j : Nat) (v : Int32) (k i : Nat) : sM (hsI h 104 a j v) m k i = if dR h 708 m = a ∧ k = 4 ∧ i = j then v else sM h m k i := by rw [sw_4]; exact sM_c
theorem sq_5 (h : hp_T) (m a j : Nat) (v : Int32) (k i : Nat) : sM (hsI h 105 a j v) m k i = if dR h 709 m = a ∧ k = 5 ∧ i = j then v else sM h m k i := by rw [sw_5]; exact sM_c
theorem sq_6 (h : hp_T) (m a j : Nat) (v : Int32) (k i : Nat) : sM (hsI h 106 a j v) m k i = if dR h 710 m = a ∧ k = 6 ∧ i = j then v else sM h m k i := by rw [sw_6]; exact sM_c
theorem sq_7 (h : hp_T) (m a j : Nat) (v : Int32) (k i : Nat) : sM (hsI h 107 a j v) m k i = if dR h 711 m = a ∧ k = 7 ∧ i = j then v else sM h m k i := by rw [sw_7]; exact sM_c
theorem sq_8 (h : hp_T) (m a j : Nat) (v : Int32) (k i : Nat) : sM (hsI h 108 a j v) m k i = if dR h 712 m = a ∧ k = 8 ∧ i = j then v else sM h m k i := by rw [sw_8]; exact sM_c
theorem sq_9 (h : hp_T) (m a j : Nat) (v : Int32) (k i : Nat) : sM (hsI h 109 a j v) m k i = if dR h 713 m = a ∧ k = 9 ∧ i = j then v else sM h m k i := by rw [sw_9]; exact sM_c
theorem sq_10 (h : hp_T) (m a j : Nat) (v : Int32) (k i : Nat) : sM (hsI h 110 a j v) m k i = if dR h 714 m = a ∧ k = 10 ∧ i = j then v else sM h m k i := by rw [sw_10]; exact sM_c
theorem sq_11 (h : hp_T) (m a j : Nat) (v : Int32) (k i : Nat) : sM (hsI h 111 a j v) m k i = if dR h 715 m = a ∧ k = 11 ∧ i = j then v else sM h m k i := by rw [sw_11]; exact sM_c
theorem sq_12 (h : hp_T) (m a j : Nat) (v : Int32) (k i : Nat) : sM (hsI h 112 a j v) m k i = if dR h 716 m = a ∧ k = 12 ∧ i = j then v else sM h m k i := by rw [sw_12]; exact sM_c
theorem sq_13 (h : hp_T) (m : Nat) (v : Int32) (k i : Nat) : sM (hsI h 717 m 0 v) m k i = if k = 13 ∧ i = 0 then v else sM h m k i := by rw [sw_13]; rfl
theorem sq_14 (h : hp_T) (m a j : Nat) (v : Int32) (k i : Nat) : sM (hsI h 114 a j v) m k i = if dR h 718 m = a ∧ k = 14 ∧ i = j then v else sM h m k i := by rw [sw_14]; exact sM_c
theorem sq_15 (h : hp_T) (m a j : Nat) (v : Int32) (k i : Nat) : sM (hsI h 115 a j v) m k i = if dR h 719 m = a ∧ k = 15 ∧ i = j then v else sM h m k i := by rw [sw_15]; exact sM_c
theorem sq_16 (h : hp_T) (m a j : Nat) (v : Int32) (k i : Nat) : sM (hsI h 116 a j v) m k i = if dR h 720 m = a ∧ k = 16 ∧ i = j then v else sM h m k i := by rw [sw_16]; exact sM_c
theorem sq_17 (h : hp_T) (m a j : Nat) (v : Int32) (k i : Nat) : sM (hsI h 117 a j v) m k i = if dR h 721 m = a ∧ k = 17 ∧ i = j then v else sM h m k i := by rw [sw_17]; exact sM_c
theorem sq_18 (h : hp_T) (m a j : Nat) (v : Int32) (k i : Nat) : sM (hsI h 118 a j v) m k i = if dR h 722 m = a ∧ k = 18 ∧ i = j then v else sM h m k i := by rw [sw_18]; exact sM_c
theorem sq_19 (h : hp_T) (m a j : Nat) (v : Int32) (k i : Nat) : sM (hsI h 119 a j v) m k i = if dR h 723 m = a ∧ k = 19 ∧ i = j then v else sM h m k i := by rw [sw_19]; exact sM_c
theorem sq_20 (h : hp_T) (m a j : Nat) (v : Int32) (k i : Nat) : sM (hsI h 120 a j v) m k i = if dR h 724 m = a ∧ k = 20 ∧ i = j then v else sM h m k i := by rw [sw_20]; exact sM_c
theorem sq_21 (h : hp_T) (m a j : Nat) (v : Int32) (k i : Nat) : sM (hsI h 121 a j v) m k i = if dR h 725 m = a ∧ k = 21 ∧ i = j then v else sM h m k i := by rw [sw_21]; exact sM_c
theorem sq_22 (h : hp_T) (m a j : Nat) (v : Int32) (k i : Nat) : sM (hsI h 122 a j v) m k i = if dR h 726 m = a ∧ k = 22 ∧ i = j then v else sM h m k i := by rw [sw_22]; exact sM_c
theorem sq_23 (h : hp_T) (m a j : Nat) (v : Int32) (k i : Nat) : sM (hsI h 123 a j v) m k i = if dR h 727 m = a ∧ k = 23 ∧ i = j then v else sM h m k i := by rw [sw_23]; exact sM_c
theorem sq_24 (h : hp_T) (m a j : Nat) (v : Int32) (k i : Nat) : sM (hsI h 124 a j v) m k i = if dR h 728 m = a ∧ k = 24 ∧ i = j then v else sM h m k i := by rw [sw_24]; exact sM_c
theorem sq_25 (h : hp_T) (m a j : Nat) (v : Int32) (k i : Nat) : sM (hsI h 125 a j v) m k i = if dR h 729 m = a ∧ k = 25 ∧ i = j then v else sM h m k i := by rw [sw_25]; exact sM_c
theorem sq_26 (h : hp_T) (m : Nat) (v : Int32) (k i : Nat) : sM (hsI h 730 m 0 v) m k i = if k = 26 ∧ i = 0 then v else sM h m k i := by rw [sw_26]; rfl
theorem sq_27 (h : hp_T) (m a j : Nat) (v : Int32) (k i : Nat) : sM (hsI h 127 a j v) m k i = if dR h 731 m = a ∧ k = 27 ∧ i = j then v else sM h m k i := by rw [sw_27]; exact sM_c
theorem sq_28 (h : hp_T) (m a j : Nat) (v : Int32) (k i : Nat) : sM (hsI h 128 a j v) m k i = if dR h 732 m = a ∧ k = 28 ∧ i = j then v else sM h m k i := by rw [sw_28]; exact sM_c
theorem sq_29 (h : hp_T) (m a j : Nat) (v : Int32) (k i : Nat) : sM (hsI h 129 a j v) m k i = if dR h 733 m = a ∧ k = 29 ∧ i = j then v else sM h m k i := by rw [sw_29]; exact sM_c
theorem sq_30 (h : hp_T) (m a j : Nat) (v : Int32) (k i : Nat) : sM (hsI h 130 a j v) m k i = if dR h 734 m = a ∧ k = 30 ∧ i = j then v else sM h m k i := by rw [sw_30]; exact sM_c
theorem sq_31 (h : hp_T) (m a j : Nat) (v : Int32) (k i : Nat) : sM (hsI h 131 a j v) m k i = if dR h 735 m = a ∧ k = 31 ∧ i = j then v else sM h m k i := by rw [sw_31]; exact sM_c
theorem sq_32 (h : hp_T) (m : Nat) (v : Int32) (k i : Nat) : sM (hsI h 736 m 0 v) m k i = if k = 32 ∧ i = 0 then v else sM h m k i := by rw [sw_32]; rfl
theorem sq_33 (h : hp_T) (m : Nat) (v : Int32) (k i : Nat) : sM (hsI h 737 m 0 v) m k i = if k = 33 ∧ i = 0 then v else sM h m k i := by rw [sw_33]; rfl
theorem sx_135 (h : hp_T) (m a j : Nat) (v : Int32) : sM (hsI h 135 a j v) m = sM h m := sM_x h m (by omega) a j v
theorem sx_137 (h : hp_T) (m a j : Nat) (v : Int32) : sM (hsI h 137 a j v) m = sM h m := sM_x h m (by omega) a j v
theorem sx_140 (h : hp_T) (m a j : Nat) (v : Int32) : sM (hsI h 140 a j v) m = sM h m := sM_x h m (by omega) a j v
theorem sx_738 (h : hp_T) (m a j : Nat) (v : Int32) : sM (hsI h 738 a j v) m = sM h m := sM_x h m (by omega) a j v
theorem sx_740 (h : hp_T) (m a j : Nat) (v : Int32) : sM (hsI h 740 a j v) m = sM h m := sM_x h m (by omega) a j v
theorem sx_742 (h : hp_T) (m a j : Nat) (v : Int32) : sM (hsI h 742 a j v) m = sM h m := sM_x h m (by omega) a j v
theorem sx_743 (h : hp_T) (m a j : Nat) (v : Int32) : sM (hsI h 743 a j v) m = sM h m := sM_x h m (by omega) a j v
theorem sx_745 (h : hp_T) (m a j : Nat) (v : Int32) : sM (hsI h 745 a j v) m = sM h m := sM_x h m (by omega) a j v
def wp_X9_thrown_0 (P : Option Value → hp_T → Prop) (X : String → hp_T → Prop) : KT :=
  i_aload 0 (i_getI 11 745 (i_iret P))
set_option maxRecDepth 20000 in
theorem go_X9_thrown_0 {z : zT} {P : Option Value → hp_T → Prop} {X : String → hp_T → Prop} (hz : Cx z cX9_thrown 1 "PanelryModel" "thrown" 0 0 0) (hr : Rt z (some .int) P X 0 0) : Go z 0 0 0 (wp_X9_thrown_0 P X) := 
  s_aload_n hz rfl dX9_thrown_0 (fg_RX9_111 hz dX9_thrown_1 (s_iret hz hr rfl rfl dX9_thrown_4))

def T_X9_thrown : PT := fun av h P X => match av with
  | [.ref m] => (hK h m = 11) ∧ (P (some (.int (hI h 745 m 0))) h)
  | _ => False
theorem tx_X9_thrown (m : Nat) (h : hp_T) (P : Option Value → hp_T → Prop) (X : String → hp_T → Prop) : T_X9_thrown [.ref m] h P X = ((hK h m = 11) ∧ (P (some (.int (hI h 745 m 0))) h)) := rfl
set_option maxRecDepth 20000 in
theorem ct_X9_thrown : CT yX9_thrown cX9_thrown 1 (some .int) 0 0 0 T_X9_thrown := by
  refine ct_ofE (by decide) (fun z av h P X hT hz hr => ?_) (fun av h P X hT => ?_)
  · unfold T_X9_thrown at hT
    split at hT
    · refine ⟨_, go_X9_thrown_0 hz hr, ?_⟩
      rename_i m
      show wp_X9_thrown_0 P X [some (.ref m)] [] h
      obtain ⟨hk, hp⟩ := hT
      simp only [wp_X9_thrown_0, i_mmax, i_mmin, i_pushI, i_pushN, i_pushL, i_iload, i_aload, i_istore, i_astore, i_iinc, i_iadd, i_isub, i_imul, i_iand, i_ior, i_ixor, i_ishl, i_ishr, i_iushr, i_idiv, i_i2l, i_lcmp, i_dup, i_pop, i_dupx1, i_dup2, i_ifeq, i_ifne, i_iflt, i_ifge, i_ifgt, i_ifle, i_iceq, i_icne, i_iclt, i_icge, i_icgt, i_icle, i_ifnull, i_aceq, i_getI, i_getR, i_putI, i_putZ, i_putR, i_new, i_newarr, i_ald, i_lald, i_aald, i_alen, i_ast, i_zast, i_last, i_aast, i_aastL, i_cast, i_gste, i_ldcM, i_getC, i_acopy, i_dead, i_objinit, i_callV, i_callS, i_callI, i_iret, i_zret, i_aret, i_vret, i_throw, popN, pushO, lget, lset, isRf_ref, isRf_null, isRf_rf, isC1_int, isC1_ref, isC1_null, isC1_rf, true_and, and_true, List.length_cons, List.length_nil, Nat.reduceAdd, Nat.reduceLeDiff, hK_sI, hN_sI, hR_sI, hI_sI, hK_sR, hN_sR, hR_sR, hI_sR, kC_2, kC_3, kC_4, kC_5, kC_6, kC_7, kC_8, kC_9, kC_10, kC_11, kC_20, kC_21, kC_22, kC_23, i2_0, i1_1, i0_1, i1_0, bI_and, bI_0, Decidable.not_not, not_false_eq_true, not_true_eq_false, forall_const, false_implies, true_implies, hK_copy, hN_copy, hI_copy, hC_sI, hC_sR, hC_new, hK_new, hN_new, hI_new, hR_new, rf_some, rf_none, ex_ref, ex_null, ex_rf, nref_null, rf_null, Nat.reduceEqDiff, reduceCtorEq, false_and, and_false, if_false, if_true, ne_eq, kO_150, kO_151, kO_152, kO_170, kO_180, kO_190, Value.ref.injEq, exists_eq_left', false_or, hk]
      (repeat' (first | (apply And.intro) | (intro _)))
      all_goals first | exact hp | (rw [bI_t (by clear hp; grind)] at hp; exact hp) | (rw [bI_f (by clear hp; grind)] at hp; exact hp) | (simp_all; done)
    · exact hT.elim
  · unfold T_X9_thrown at hT
    split at hT
    · exact ⟨Nat.le_of_ble_eq_true rfl, by simp [isC1_int, isC1_ref, isC1_null, isC1_rf]⟩
    · exact hT.elim
def wp_X9_within_15 (P : Option Value → hp_T → Prop) (X : String → hp_T → Prop) : KT :=
  i_zret P
set_option maxRecDepth 20000 in
theorem go_X9_within_15 {z : zT} {P : Option Value → hp_T → Prop} {X : String → hp_T → Prop} (hz : Cx z cX9_within 3 "PanelryModel" "within" 0 0 0) (hr : Rt z (some .boolean) P X 0 0) : Go z 0 0 15 (wp_X9_within_15 P X) := 
  s_zret hz hr rfl rfl dX9_within_15
def wp_X9_within_14 (P : Option Value → hp_T → Prop) (X : String → hp_T → Prop) : KT :=
  i_pushI 0 (wp_X9_within_15 P X)
set_option maxRecDepth 20000 in
theorem go_X9_within_14 {z : zT} {P : Option Value → hp_T → Prop} {X : String → hp_T → Prop} (hz : Cx z cX9_within 3 "PanelryModel" "within" 0 0 0) (hr : Rt z (some .boolean) P X 0 0) : Go z 0 0 14 (wp_X9_within_14 P X) := 
  s_iconst hz rfl dX9_within_14 (go_X9_within_15 hz hr)
def wp_X9_within_0 (P : Option Value → hp_T → Prop) (X : String → hp_T → Prop) : KT :=
  i_iload 0 (i_iload 1 (i_iclt (wp_X9_within_14 P X) (i_iload 0 (i_iload 2 (i_icgt (wp_X9_within_14 P X) (i_pushI 1 (wp_X9_within_15 P X)))))))
set_option maxRecDepth 20000 in
theorem go_X9_within_0 {z : zT} {P : Option Value → hp_T → Prop} {X : String → hp_T → Prop} (hz : Cx z cX9_within 3 "PanelryModel" "within" 0 0 0) (hr : Rt z (some .boolean) P X 0 0) : Go z 0 0 0 (wp_X9_within_0 P X) := 
  s_iload_n hz rfl dX9_within_0 (s_iload_n hz rfl dX9_within_1 (s_iclt hz (tgt := 14) rfl dX9_within_2 (go_X9_within_14 hz hr) (s_iload_n hz rfl dX9_within_5 (s_iload_n hz rfl dX9_within_6
    (s_icgt hz (tgt := 14) rfl dX9_within_7 (go_X9_within_14 hz hr) (s_iconst hz rfl dX9_within_10 (s_goto hz (tgt := 15) rfl dX9_within_11 (go_X9_within_15 hz hr))))))))

def T_X9_within : PT := fun av h P X => match av with
  | [.int v, .int l, .int u] => (True) ∧ (P (some (.int (bI (l ≤ v ∧ v ≤ u)))) h)
  | _ => False
theorem tx_X9_within (v : Int32) (l : Int32) (u : Int32) (h : hp_T) (P : Option Value → hp_T → Prop) (X : String → hp_T → Prop) : T_X9_within [.int v, .int l, .int u] h P X = ((True) ∧ (P (some (.int (bI (l ≤ v ∧ v ≤ u)))) h)) := rfl
set_option maxRecDepth 20000 in
theorem ct_X9_within : CT yX9_within cX9_within 3 (some .boolean) 0 0 0 T_X9_within := by
  refine ct_ofE (by decide) (fun z av h P X hT hz hr => ?_) (fun av h P X hT => ?_)
  · unfold T_X9_within at hT
    split at hT
    · refine ⟨_, go_X9_within_0 hz hr, ?_⟩
      rename_i v l u
      show wp_X9_within_0 P X [some (.int v), some (.int l), some (.int u)] [] h
      obtain ⟨hk, hp⟩ := hT
      simp only [wp_X9_within_15, wp_X9_within_14, wp_X9_within_0, i_mmax, i_mmin, i_pushI, i_pushN, i_pushL, i_iload, i_aload, i_istore, i_astore, i_iinc, i_iadd, i_isub, i_imul, i_iand, i_ior, i_ixor, i_ishl, i_ishr, i_iushr, i_idiv, i_i2l, i_lcmp, i_dup, i_pop, i_dupx1, i_dup2, i_ifeq, i_ifne, i_iflt, i_ifge, i_ifgt, i_ifle, i_iceq, i_icne, i_iclt, i_icge, i_icgt, i_icle, i_ifnull, i_aceq, i_getI, i_getR, i_putI, i_putZ, i_putR, i_new, i_newarr, i_ald, i_lald, i_aald, i_alen, i_ast, i_zast, i_last, i_aast, i_aastL, i_cast, i_gste, i_ldcM, i_getC, i_acopy, i_dead, i_objinit, i_callV, i_callS, i_callI, i_iret, i_zret, i_aret, i_vret, i_throw, popN, pushO, lget, lset, isRf_ref, isRf_null, isRf_rf, isC1_int, isC1_ref, isC1_null, isC1_rf, true_and, and_true, List.length_cons, List.length_nil, Nat.reduceAdd, Nat.reduceLeDiff, hK_sI, hN_sI, hR_sI, hI_sI, hK_sR, hN_sR, hR_sR, hI_sR, kC_2, kC_3, kC_4, kC_5, kC_6, kC_7, kC_8, kC_9, kC_10, kC_11, kC_20, kC_21, kC_22, kC_23, i2_0, i1_1, i0_1, i1_0, bI_and, bI_0, Decidable.not_not, not_false_eq_true, not_true_eq_false, forall_const, false_implies, true_implies, hK_copy, hN_copy, hI_copy, hC_sI, hC_sR, hC_new, hK_new, hN_new, hI_new, hR_new, rf_some, rf_none, ex_ref, ex_null, ex_rf, nref_null, rf_null, Nat.reduceEqDiff, reduceCtorEq, false_and, and_false, if_false, if_true, ne_eq, kO_150, kO_151, kO_152, kO_170, kO_180, kO_190, Value.ref.injEq, exists_eq_left', false_or, hk]
      (repeat' (first | (apply And.intro) | (intro _)))
      all_goals first | exact hp | (rw [bI_t (by clear hp; grind)] at hp; exact hp) | (rw [bI_f (by clear hp; grind)] at hp; exact hp) | (simp_all; done)
    · exact hT.elim
  · unfold T_X9_within at hT
    split at hT
    · exact ⟨Nat.le_of_ble_eq_true rfl, by simp [isC1_int, isC1_ref, isC1_null, isC1_rf]⟩
    · exact hT.elim
def wp_X9_isPage_0 (P : Option Value → hp_T → Prop) (X : String → hp_T → Prop) : KT :=
  i_iload 1 (i_pushI 0 (i_aload 0 (i_getI 11 704 (i_pushI 1 (i_isub (i_callS 3 T_X9_within noX (i_zret P)))))))
set_option maxRecDepth 20000 in
theorem go_X9_isPage_0 {z : zT} {P : Option Value → hp_T → Prop} {X : String → hp_T → Prop} (hz : Cx z cX9_isPage 2 "PanelryModel" "isPage" 1 0 0) (hr : Rt z (some .boolean) P X 0 0) : Go z 0 0 0 (wp_X9_isPage_0 P X) := 
  s_iload_n hz rfl dX9_isPage_0 (s_iconst hz rfl dX9_isPage_1 (s_aload_n hz rfl dX9_isPage_2 (fg_RX9_114 hz dX9_isPage_3 (s_iconst hz rfl dX9_isPage_6 (s_isub hz dX9_isPage_7 (s_callS hz ct_X9_within ⟨w1079, w1081, w33, by decide, by decide, by decide +kernel⟩ w1080 rfl rfl rfl rfl out_no dX9_isPage_8
    (s_zret hz hr rfl rfl dX9_isPage_11)))))))

def T_X9_isPage : PT := fun av h P X => match av with
  | [.ref m, .int v] => (hK h m = 11) ∧ (P (some (.int (bI (pgM (sM h m) v)))) h)
  | _ => False
theorem tx_X9_isPage (m : Nat) (v : Int32) (h : hp_T) (P : Option Value → hp_T → Prop) (X : String → hp_T → Prop) : T_X9_isPage [.ref m, .int v] h P X = ((hK h m = 11) ∧ (P (some (.int (bI (pgM (sM h m) v)))) h)) := rfl
set_option maxRecDepth 20000 in
theorem ct_X9_isPage : CT yX9_isPage cX9_isPage 2 (some .boolean) 1 0 0 T_X9_isPage := by
  refine ct_ofE (by decide) (fun z av h P X hT hz hr => ?_) (fun av h P X hT => ?_)
  · unfold T_X9_isPage at hT
    split at hT
    · refine ⟨_, go_X9_isPage_0 hz hr, ?_⟩
      rename_i m v
      show wp_X9_isPage_0 P X [some (.ref m), some (.int v)] [] h
      obtain ⟨hk, hp⟩ := hT
      unfold pgM at hp
      simp only [wp_X9_isPage_0, T_X9_within, i_mmax, i_mmin, i_pushI, i_pushN, i_pushL, i_iload, i_aload, i_istore, i_astore, i_iinc, i_iadd, i_isub, i_imul, i_iand, i_ior, i_ixor, i_ishl, i_ishr, i_iushr, i_idiv, i_i2l, i_lcmp, i_dup, i_pop, i_dupx1, i_dup2, i_ifeq, i_ifne, i_iflt, i_ifge, i_ifgt, i_ifle, i_iceq, i_icne, i_iclt, i_icge, i_icgt, i_icle, i_ifnull, i_aceq, i_getI, i_getR, i_putI, i_putZ, i_putR, i_new, i_newarr, i_ald, i_lald, i_aald, i_alen, i_ast, i_zast, i_last, i_aast, i_aastL, i_cast, i_gste, i_ldcM, i_getC, i_acopy, i_dead, i_objinit, i_callV, i_callS, i_callI, i_iret, i_zret, i_aret, i_vret, i_throw, popN, pushO, lget, lset, isRf_ref, isRf_null, isRf_rf, isC1_int, isC1_ref, isC1_null, isC1_rf, true_and, and_true, List.length_cons, List.length_nil, Nat.reduceAdd, Nat.reduceLeDiff, hK_sI, hN_sI, hR_sI, hI_sI, hK_sR, hN_sR, hR_sR, hI_sR, kC_2, kC_3, kC_4, kC_5, kC_6, kC_7, kC_8, kC_9, kC_10, kC_11, kC_20, kC_21, kC_22, kC_23, i2_0, i1_1, i0_1, i1_0, bI_and, bI_0, Decidable.not_not, not_false_eq_true, not_true_eq_false, forall_const, false_implies, true_implies, hK_copy, hN_copy, hI_copy, hC_sI, hC_sR, hC_new, hK_new, hN_new, hI_new, hR_new, rf_some, rf_none, ex_ref, ex_null, ex_rf, nref_null, rf_null, Nat.reduceEqDiff, reduceCtorEq, false_and, and_false, if_false, if_true, ne_eq, kO_150, kO_151, kO_152, kO_170, kO_180, kO_190, Value.ref.injEq, exists_eq_left', false_or, hk, rs_0]
      (repeat' (first | (apply And.intro) | (intro _)))
      all_goals first | exact hp | (rw [bI_t (by clear hp; grind)] at hp; exact hp) | (rw [bI_f (by clear hp; grind)] at hp; exact hp) | (simp_all; done)
    · exact hT.elim
  · unfold T_X9_isPage at hT
    split at hT
    · exact ⟨Nat.le_of_ble_eq_true rfl, by simp [isC1_int, isC1_ref, isC1_null, isC1_rf]⟩
    · exact hT.elim
def wp_X9_meet_19 (P : Option Value → hp_T → Prop) (X : String → hp_T → Prop) : KT :=
  i_zret P
set_option maxRecDepth 20000 in
theorem go_X9_meet_19 {z : zT} {P : Option Value → hp_T → Prop} {X : String → hp_T → Prop} (hz : Cx z cX9_meet 4 "PanelryModel" "meet" 0 0 0) (hr : Rt z (some .boolean) P X 0 0) : Go z 0 0 19 (wp_X9_meet_19 P X) := 
  s_zret hz hr rfl rfl dX9_meet_19
def wp_X9_meet_18 (P : Option Value → hp_T → Prop) (X : String → hp_T → Prop) : KT :=
  i_pushI 0 (wp_X9_meet_19 P X)
set_option maxRecDepth 20000 in
theorem go_X9_meet_18 {z : zT} {P : Option Value → hp_T → Prop} {X : String → hp_T → Prop} (hz : Cx z cX9_meet 4 "PanelryModel" "meet" 0 0 0) (hr : Rt z (some .boolean) P X 0 0) : Go z 0 0 18 (wp_X9_meet_18 P X) := 
  s_iconst hz rfl dX9_meet_18 (go_X9_meet_19 hz hr)
def wp_X9_meet_0 (P : Option Value → hp_T → Prop) (X : String → hp_T → Prop) : KT :=
  i_iload 0 (i_iload 2 (i_iload 3 (i_iadd (i_icge (wp_X9_meet_18 P X) (i_iload 2 (i_iload 0 (i_iload 1 (i_iadd (i_icge (wp_X9_meet_18 P X) (i_pushI 1 (wp_X9_meet_19 P X)))))))))))
set_option maxRecDepth 20000 in
theorem go_X9_meet_0 {z : zT} {P : Option Value → hp_T → Prop} {X : String → hp_T → Prop} (hz : Cx z cX9_meet 4 "PanelryModel" "meet" 0 0 0) (hr : Rt z (some .boolean) P X 0 0) : Go z 0 0 0 (wp_X9_meet_0 P X) := 
  s_iload_n hz rfl dX9_meet_0 (s_iload_n hz rfl dX9_meet_1 (s_iload_n hz rfl dX9_meet_2 (s_iadd hz dX9_meet_3 (s_icge hz (tgt := 18) rfl dX9_meet_4 (go_X9_meet_18 hz hr) (s_iload_n hz rfl dX9_meet_7
    (s_iload_n hz rfl dX9_meet_8 (s_iload_n hz rfl dX9_meet_9 (s_iadd hz dX9_meet_10 (s_icge hz (tgt := 18) rfl dX9_meet_11 (go_X9_meet_18 hz hr) (s_iconst hz rfl dX9_meet_14 (s_goto hz (tgt := 19) rfl dX9_meet_15
    (go_X9_meet_19 hz hr))))))))))))

def T_X9_meet : PT := fun av h P X => match av with
  | [.int a, .int b, .int c, .int d] => (True) ∧ (P (some (.int (bI (mtM a b c d)))) h)
  | _ => False
theorem tx_X9_meet (a : Int32) (b : Int32) (c : Int32) (d : Int32) (h : hp_T) (P : Option Value → hp_T → Prop) (X : String → hp_T → Prop) : T_X9_meet [.int a, .int b, .int c, .int d] h P X = ((True) ∧ (P (some (.int (bI (mtM a b c d)))) h)) := rfl
set_option maxRecDepth 20000 in
theorem ct_X9_meet : CT yX9_meet cX9_meet 4 (some .boolean) 0 0 0 T_X9_meet := by
  refine ct_ofE (by decide) (fun z av h P X hT hz hr => ?_) (fun av h P X hT => ?_)
  · unfold T_X9_meet at hT
    split at hT
    · refine ⟨_, go_X9_meet_0 hz hr, ?_⟩
      rename_i a b c d
      show wp_X9_meet_0 P X [some (.int a), some (.int b), some (.int c), some (.int d)] [] h
      obtain ⟨hk, hp⟩ := hT
      unfold mtM at hp
      simp only [wp_X9_meet_19, wp_X9_meet_18, wp_X9_meet_0, i_mmax, i_mmin, i_pushI, i_pushN, i_pushL, i_iload, i_aload, i_istore, i_astore, i_iinc, i_iadd, i_isub, i_imul, i_iand, i_ior, i_ixor, i_ishl, i_ishr, i_iushr, i_idiv, i_i2l, i_lcmp, i_dup, i_pop, i_dupx1, i_dup2, i_ifeq, i_ifne, i_iflt, i_ifge, i_ifgt, i_ifle, i_iceq, i_icne, i_iclt, i_icge, i_icgt, i_icle, i_ifnull, i_aceq, i_getI, i_getR, i_putI, i_putZ, i_putR, i_new, i_newarr, i_ald, i_lald, i_aald, i_alen, i_ast, i_zast, i_last, i_aast, i_aastL, i_cast, i_gste, i_ldcM, i_getC, i_acopy, i_dead, i_objinit, i_callV, i_callS, i_callI, i_iret, i_zret, i_aret, i_vret, i_throw, popN, pushO, lget, lset, isRf_ref, isRf_null, isRf_rf, isC1_int, isC1_ref, isC1_null, isC1_rf, true_and, and_true, List.length_cons, List.length_nil, Nat.reduceAdd, Nat.reduceLeDiff, hK_sI, hN_sI, hR_sI, hI_sI, hK_sR, hN_sR, hR_sR, hI_sR, kC_2, kC_3, kC_4, kC_5, kC_6, kC_7, kC_8, kC_9, kC_10, kC_11, kC_20, kC_21, kC_22, kC_23, i2_0, i1_1, i0_1, i1_0, bI_and, bI_0, Decidable.not_not, not_false_eq_true, not_true_eq_false, forall_const, false_implies, true_implies, hK_copy, hN_copy, hI_copy, hC_sI, hC_sR, hC_new, hK_new, hN_new, hI_new, hR_new, rf_some, rf_none, ex_ref, ex_null, ex_rf, nref_null, rf_null, Nat.reduceEqDiff, reduceCtorEq, false_and, and_false, if_false, if_true, ne_eq, kO_150, kO_151, kO_152, kO_170, kO_180, kO_190, Value.ref.injEq, exists_eq_left', false_or, hk]
      (repeat' (first | (apply And.intro) | (intro _)))
      all_goals first | exact hp | (rw [bI_t (by clear hp; grind)] at hp; exact hp) | (rw [bI_f (by clear hp; grind)] at hp; exact hp) | (simp_all; done)
    · exact hT.elim
  · unfold T_X9_meet at hT
    split at hT
    · exact ⟨Nat.le_of_ble_eq_true rfl, by simp [isC1_int, isC1_ref, isC1_null, isC1_rf]⟩
    · exact hT.elim
def wp_X9_isOneOnly_13 (P : Option Value → hp_T → Prop) (X : String → hp_T → Prop) : KT :=
  i_zret P
set_option maxRecDepth 20000 in
theorem go_X9_isOneOnly_13 {z : zT} {P : Option Value → hp_T → Prop} {X : String → hp_T → Prop} (hz : Cx z cX9_isOneOnly 1 "PanelryModel" "isOneOnly" 0 0 0) (hr : Rt z (some .boolean) P X 0 0) : Go z 0 0 13 (wp_X9_isOneOnly_13 P X) := 
  s_zret hz hr rfl rfl dX9_isOneOnly_13
def wp_X9_isOneOnly_0 (P : Option Value → hp_T → Prop) (X : String → hp_T → Prop) : KT :=
  i_iload 0 (i_iload 0 (i_pushI 1 (i_isub (i_iand (i_ifne (i_pushI 0 (wp_X9_isOneOnly_13 P X)) (i_pushI 1 (wp_X9_isOneOnly_13 P X)))))))
set_option maxRecDepth 20000 in
theorem go_X9_isOneOnly_0 {z : zT} {P : Option Value → hp_T → Prop} {X : String → hp_T → Prop} (hz : Cx z cX9_isOneOnly 1 "PanelryModel" "isOneOnly" 0 0 0) (hr : Rt z (some .boolean) P X 0 0) : Go z 0 0 0 (wp_X9_isOneOnly_0 P X) := 
  s_iload_n hz rfl dX9_isOneOnly_0 (s_iload_n hz rfl dX9_isOneOnly_1 (s_iconst hz rfl dX9_isOneOnly_2 (s_isub hz dX9_isOneOnly_3 (s_iand hz dX9_isOneOnly_4 (s_ifne hz (tgt := 12) rfl dX9_isOneOnly_5
    (s_iconst hz rfl dX9_isOneOnly_12 (go_X9_isOneOnly_13 hz hr)) (s_iconst hz rfl dX9_isOneOnly_8 (s_goto hz (tgt := 13) rfl dX9_isOneOnly_9 (go_X9_isOneOnly_13 hz hr))))))))

def T_X9_isOneOnly : PT := fun av h P X => match av with
  | [.int x] => (True) ∧ (P (some (.int (bI (x &&& (x - 1) = 0)))) h)
  | _ => False
theorem tx_X9_isOneOnly (x : Int32) (h : hp_T) (P : Option Value → hp_T → Prop) (X : String → hp_T → Prop) : T_X9_isOneOnly [.int x] h P X = ((True) ∧ (P (some (.int (bI (x &&& (x - 1) = 0)))) h)) := rfl
set_option maxRecDepth 20000 in
theorem ct_X9_isOneOnly : CT yX9_isOneOnly cX9_isOneOnly 1 (some .boolean) 0 0 0 T_X9_isOneOnly := by
  refine ct_ofE (by decide) (fun z av h P X hT hz hr => ?_) (fun av h P X hT => ?_)
  · unfold T_X9_isOneOnly at hT
    split at hT
    · refine ⟨_, go_X9_isOneOnly_0 hz hr, ?_⟩
      rename_i x
      show wp_X9_isOneOnly_0 P X [some (.int x)] [] h
      obtain ⟨hk, hp⟩ := hT
      simp only [wp_X9_isOneOnly_13, wp_X9_isOneOnly_0, i_mmax, i_mmin, i_pushI, i_pushN, i_pushL, i_iload, i_aload, i_istore, i_astore, i_iinc, i_iadd, i_isub, i_imul, i_iand, i_ior, i_ixor, i_ishl, i_ishr, i_iushr, i_idiv, i_i2l, i_lcmp, i_dup, i_pop, i_dupx1, i_dup2, i_ifeq, i_ifne, i_iflt, i_ifge, i_ifgt, i_ifle, i_iceq, i_icne, i_iclt, i_icge, i_icgt, i_icle, i_ifnull, i_aceq, i_getI, i_getR, i_putI, i_putZ, i_putR, i_new, i_newarr, i_ald, i_lald, i_aald, i_alen, i_ast, i_zast, i_last, i_aast, i_aastL, i_cast, i_gste, i_ldcM, i_getC, i_acopy, i_dead, i_objinit, i_callV, i_callS, i_callI, i_iret, i_zret, i_aret, i_vret, i_throw, popN, pushO, lget, lset, isRf_ref, isRf_null, isRf_rf, isC1_int, isC1_ref, isC1_null, isC1_rf, true_and, and_true, List.length_cons, List.length_nil, Nat.reduceAdd, Nat.reduceLeDiff, hK_sI, hN_sI, hR_sI, hI_sI, hK_sR, hN_sR, hR_sR, hI_sR, kC_2, kC_3, kC_4, kC_5, kC_6, kC_7, kC_8, kC_9, kC_10, kC_11, kC_20, kC_21, kC_22, kC_23, i2_0, i1_1, i0_1, i1_0, bI_and, bI_0, Decidable.not_not, not_false_eq_true, not_true_eq_false, forall_const, false_implies, true_implies, hK_copy, hN_copy, hI_copy, hC_sI, hC_sR, hC_new, hK_new, hN_new, hI_new, hR_new, rf_some, rf_none, ex_ref, ex_null, ex_rf, nref_null, rf_null, Nat.reduceEqDiff, reduceCtorEq, false_and, and_false, if_false, if_true, ne_eq, kO_150, kO_151, kO_152, kO_170, kO_180, kO_190, Value.ref.injEq, exists_eq_left', false_or, hk]
      (repeat' (first | (apply And.intro) | (intro _)))
      all_goals first | exact hp | (rw [bI_t (by clear hp; grind)] at hp; exact hp) | (rw [bI_f (by clear hp; grind)] at hp; exact hp) | (simp_all; done)
    · exact hT.elim
  · unfold T_X9_isOneOnly at hT
    split at hT
    · exact ⟨Nat.le_of_ble_eq_true rfl, by simp [isC1_int, isC1_ref, isC1_null, isC1_rf]⟩
    · exact hT.elim
def wp_X9_isPrinted_15 (P : Option Value → hp_T → Prop) (X : String → hp_T → Prop) : KT :=
  i_zret P
set_option maxRecDepth 20000 in
theorem go_X9_isPrinted_15 {z : zT} {P : Option Value → hp_T → Prop} {X : String → hp_T → Prop} (hz : Cx z cX9_isPrinted 2 "PanelryModel" "isPrinted" 0 0 0) (hr : Rt z (some .boolean) P X 0 0) : Go z 0 0 15 (wp_X9_isPrinted_15 P X) := 
  s_zret hz hr rfl rfl dX9_isPrinted_15
def wp_X9_isPrinted_0 (P : Option Value → hp_T → Prop) (X : String → hp_T → Prop) : KT :=
  i_aload 0 (i_getR 11 709 (i_iload 1 (i_ald 105 (i_pushI (-1) (i_iceq (i_pushI 0 (wp_X9_isPrinted_15 P X)) (i_pushI 1 (wp_X9_isPrinted_15 P X)))))))
set_option maxRecDepth 20000 in
theorem go_X9_isPrinted_0 {z : zT} {P : Option Value → hp_T → Prop} {X : String → hp_T → Prop} (hz : Cx z cX9_isPrinted 2 "PanelryModel" "isPrinted" 0 0 0) (hr : Rt z (some .boolean) P X 0 0) : Go z 0 0 0 (wp_X9_isPrinted_0 P X) := 
  s_aload_n hz rfl dX9_isPrinted_0 (fg_RX9_23 hz dX9_isPrinted_1 (s_iload_n hz rfl dX9_isPrinted_4 (s_iald hz rfl rfl rfl dX9_isPrinted_5 (s_iconst hz rfl dX9_isPrinted_6 (s_iceq hz (tgt := 14) rfl dX9_isPrinted_7
    (s_iconst hz rfl dX9_isPrinted_14 (go_X9_isPrinted_15 hz hr)) (s_iconst hz rfl dX9_isPrinted_10 (s_goto hz (tgt := 15) rfl dX9_isPrinted_11 (go_X9_isPrinted_15 hz hr))))))))

def T_X9_isPrinted : PT := fun av h P X => match av with
  | [.ref m, .int v] => (mOK h m ∧ vp_in v 8) ∧ (P (some (.int (bI (¬ sM h m 5 v.toNatClampNeg = -1)))) h)
  | _ => False
theorem tx_X9_isPrinted (m : Nat) (v : Int32) (h : hp_T) (P : Option Value → hp_T → Prop) (X : String → hp_T → Prop) : T_X9_isPrinted [.ref m, .int v] h P X = ((mOK h m ∧ vp_in v 8) ∧ (P (some (.int (bI (¬ sM h m 5 v.toNatClampNeg = -1)))) h)) := rfl
set_option maxRecDepth 20000 in
theorem ct_X9_isPrinted : CT yX9_isPrinted cX9_isPrinted 2 (some .boolean) 0 0 0 T_X9_isPrinted := by
  refine ct_ofE (by decide) (fun z av h P X hT hz hr => ?_) (fun av h P X hT => ?_)
  · unfold T_X9_isPrinted at hT
    split at hT
    · refine ⟨_, go_X9_isPrinted_0 hz hr, ?_⟩
      rename_i m v
      show wp_X9_isPrinted_0 P X [some (.ref m), some (.int v)] [] h
      obtain ⟨hk, hp⟩ := hT
      obtain ⟨hm, hv⟩ := hk
      have hk : True := trivial
      simp only [wp_X9_isPrinted_15, wp_X9_isPrinted_0, i_mmax, i_mmin, i_pushI, i_pushN, i_pushL, i_iload, i_aload, i_istore, i_astore, i_iinc, i_iadd, i_isub, i_imul, i_iand, i_ior, i_ixor, i_ishl, i_ishr, i_iushr, i_idiv, i_i2l, i_lcmp, i_dup, i_pop, i_dupx1, i_dup2, i_ifeq, i_ifne, i_iflt, i_ifge, i_ifgt, i_ifle, i_iceq, i_icne, i_iclt, i_icge, i_icgt, i_icle, i_ifnull, i_aceq, i_getI, i_getR, i_putI, i_putZ, i_putR, i_new, i_newarr, i_ald, i_lald, i_aald, i_alen, i_ast, i_zast, i_last, i_aast, i_aastL, i_cast, i_gste, i_ldcM, i_getC, i_acopy, i_dead, i_objinit, i_callV, i_callS, i_callI, i_iret, i_zret, i_aret, i_vret, i_throw, popN, pushO, lget, lset, isRf_ref, isRf_null, isRf_rf, isC1_int, isC1_ref, isC1_null, isC1_rf, true_and, and_true, List.length_cons, List.length_nil, Nat.reduceAdd, Nat.reduceLeDiff, hK_sI, hN_sI, hR_sI, hI_sI, hK_sR, hN_sR, hR_sR, hI_sR, kC_2, kC_3, kC_4, kC_5, kC_6, kC_7, kC_8, kC_9, kC_10, kC_11, kC_20, kC_21, kC_22, kC_23, i2_0, i1_1, i0_1, i1_0, bI_and, bI_0, Decidable.not_not, not_false_eq_true, not_true_eq_false, forall_const, false_implies, true_implies, hK_copy, hN_copy, hI_copy, hC_sI, hC_sR, hC_new, hK_new, hN_new, hI_new, hR_new, rf_some, rf_none, ex_ref, ex_null, ex_rf, nref_null, rf_null, Nat.reduceEqDiff, reduceCtorEq, false_and, and_false, if_false, if_true, ne_eq, kO_150, kO_151, kO_152, kO_170, kO_180, kO_190, Value.ref.injEq, exists_eq_left', false_or, hk, mo_5 hm, hv, mo_h hm, rs_5]
      (repeat' (first | (apply And.intro) | (intro _)))
      all_goals first | exact hp | (rw [bI_t (by clear hp; grind)] at hp; exact hp) | (rw [bI_f (by clear hp; grind)] at hp; exact hp) | (simp_all; done)
    · exact hT.elim
  · unfold T_X9_isPrinted at hT
    split at hT
    · exact ⟨Nat.le_of_ble_eq_true rfl, by simp [isC1_int, isC1_ref, isC1_null, isC1_rf]⟩
    · exact hT.elim
def wp_X9_turnOf_38 (P : Option Value → hp_T → Prop) (X : String → hp_T → Prop) : KT :=
  i_iret P
set_option maxRecDepth 20000 in
theorem go_X9_turnOf_38 {z : zT} {P : Option Value → hp_T → Prop} {X : String → hp_T → Prop} (hz : Cx z cX9_turnOf 7 "PanelryModel" "turnOf" 0 0 0) (hr : Rt z (some .int) P X 0 0) : Go z 0 0 38 (wp_X9_turnOf_38 P X) := 
  s_iret hz hr rfl rfl dX9_turnOf_38
def wp_X9_turnOf_0 (P : Option Value → hp_T → Prop) (X : String → hp_T → Prop) : KT :=
  i_iload 2 (i_iload 0 (i_isub (i_iload 5 (i_iload 1 (i_isub (i_imul (i_iload 3 (i_iload 1 (i_isub (i_iload 4 (i_iload 0 (i_isub (i_imul (i_isub (i_istore 6 (i_iload 6 (i_ifle (i_iload 6
    (i_ifge (i_pushI 0 (wp_X9_turnOf_38 P X)) (i_pushI (-1) (wp_X9_turnOf_38 P X)))) (i_pushI 1 (wp_X9_turnOf_38 P X)))))))))))))))))))
set_option maxRecDepth 20000 in
theorem go_X9_turnOf_0 {z : zT} {P : Option Value → hp_T → Prop} {X : String → hp_T → Prop} (hz : Cx z cX9_turnOf 7 "PanelryModel" "turnOf" 0 0 0) (hr : Rt z (some .int) P X 0 0) : Go z 0 0 0 (wp_X9_turnOf_0 P X) := 
  s_iload_n hz rfl dX9_turnOf_0 (s_iload_n hz rfl dX9_turnOf_1 (s_isub hz dX9_turnOf_2 (s_iload hz dX9_turnOf_3 (s_iload_n hz rfl dX9_turnOf_5 (s_isub hz dX9_turnOf_6 (s_imul hz dX9_turnOf_7
    (s_iload_n hz rfl dX9_turnOf_8 (s_iload_n hz rfl dX9_turnOf_9 (s_isub hz dX9_turnOf_10 (s_iload hz dX9_turnOf_11 (s_iload_n hz rfl dX9_turnOf_13 (s_isub hz dX9_turnOf_14 (s_imul hz dX9_turnOf_15
    (s_isub hz dX9_turnOf_16 (s_istore hz rfl dX9_turnOf_17 (s_iload hz dX9_turnOf_19 (s_ifle hz (tgt := 28) rfl dX9_turnOf_21 (s_iload hz dX9_turnOf_28 (s_ifge hz (tgt := 37) rfl dX9_turnOf_30
    (s_iconst hz rfl dX9_turnOf_37 (go_X9_turnOf_38 hz hr)) (s_iconst hz rfl dX9_turnOf_33 (s_goto hz (tgt := 38) rfl dX9_turnOf_34 (go_X9_turnOf_38 hz hr))))) (s_iconst hz rfl dX9_turnOf_24
    (s_goto hz (tgt := 38) rfl dX9_turnOf_25 (go_X9_turnOf_38 hz hr))))))))))))))))))))

def T_X9_turnOf : PT := fun av h P X => match av with
  | [.int a, .int b, .int c, .int d, .int e, .int f] => (True) ∧ (P (some (.int (trn a b c d e f))) h)
  | _ => False
theorem tx_X9_turnOf (a : Int32) (b : Int32) (c : Int32) (d : Int32) (e : Int32) (f : Int32) (h : hp_T) (P : Option Value → hp_T → Prop) (X : String → hp_T → Prop) : T_X9_turnOf [.int a, .int b, .int c, .int d, .int e, .int f] h P X = ((True) ∧ (P (some (.int (trn a b c d e f))) h)) := rfl
set_option maxRecDepth 20000 in
theorem ct_X9_turnOf : CT yX9_turnOf cX9_turnOf 7 (some .int) 0 0 0 T_X9_turnOf := by
  refine ct_ofE (by decide) (fun z av h P X hT hz hr => ?_) (fun av h P X hT => ?_)
  · unfold T_X9_turnOf at hT
    split at hT
    · refine ⟨_, go_X9_turnOf_0 hz hr, ?_⟩
      rename_i a b c d e f
      show wp_X9_turnOf_0 P X [some (.int a), some (.int b), some (.int c), some (.int d), some (.int e), some (.int f), none] [] h
      obtain ⟨hk, hp⟩ := hT
      unfold trn sgI at hp
      simp only [wp_X9_turnOf_38, wp_X9_turnOf_0, i_mmax, i_mmin, i_pushI, i_pushN, i_pushL, i_iload, i_aload, i_istore, i_astore, i_iinc, i_iadd, i_isub, i_imul, i_iand, i_ior, i_ixor, i_ishl, i_ishr, i_iushr, i_idiv, i_i2l, i_lcmp, i_dup, i_pop, i_dupx1, i_dup2, i_ifeq, i_ifne, i_iflt, i_ifge, i_ifgt, i_ifle, i_iceq, i_icne, i_iclt, i_icge, i_icgt, i_icle, i_ifnull, i_aceq, i_getI, i_getR, i_putI, i_putZ, i_putR, i_new, i_newarr, i_ald, i_lald, i_aald, i_alen, i_ast, i_zast, i_last, i_aast, i_aastL, i_cast, i_gste, i_ldcM, i_getC, i_acopy, i_dead, i_objinit, i_callV, i_callS, i_callI, i_iret, i_zret, i_aret, i_vret, i_throw, popN, pushO, lget, lset, isRf_ref, isRf_null, isRf_rf, isC1_int, isC1_ref, isC1_null, isC1_rf, true_and, and_true, List.length_cons, List.length_nil, Nat.reduceAdd, Nat.reduceLeDiff, hK_sI, hN_sI, hR_sI, hI_sI, hK_sR, hN_sR, hR_sR, hI_sR, kC_2, kC_3, kC_4, kC_5, kC_6, kC_7, kC_8, kC_9, kC_10, kC_11, kC_20, kC_21, kC_22, kC_23, i2_0, i1_1, i0_1, i1_0, bI_and, bI_0, Decidable.not_not, not_false_eq_true, not_true_eq_false, forall_const, false_implies, true_implies, hK_copy, hN_copy, hI_copy, hC_sI, hC_sR, hC_new, hK_new, hN_new, hI_new, hR_new, rf_some, rf_none, ex_ref, ex_null, ex_rf, nref_null, rf_null, Nat.reduceEqDiff, reduceCtorEq, false_and, and_false, if_false, if_true, ne_eq, kO_150, kO_151, kO_152, kO_170, kO_180, kO_190, Value.ref.injEq, exists_eq_left', false_or, hk]
      (repeat' (first | (apply And.intro) | (intro _)))
      all_goals grind
    · exact hT.elim
  · unfold T_X9_turnOf at hT
    split at hT
    · exact ⟨Nat.le_of_ble_eq_true rfl, by simp [isC1_int, isC1_ref, isC1_null, isC1_rf]⟩
    · exact hT.elim
def wp_X9_isBetween_33 (P : Option Value → hp_T → Prop) (X : String → hp_T → Prop) : KT :=
  i_zret P
set_option maxRecDepth 20000 in
theorem go_X9_isBetween_33 {z : zT} {P : Option Value → hp_T → Prop} {X : String → hp_T → Prop} (hz : Cx z cX9_isBetween 3 "PanelryModel" "isBetween" 0 0 0) (hr : Rt z (some .boolean) P X 0 0) : Go z 0 0 33 (wp_X9_isBetween_33 P X) := 
  s_zret hz hr rfl rfl dX9_isBetween_33
def wp_X9_isBetween_32 (P : Option Value → hp_T → Prop) (X : String → hp_T → Prop) : KT :=
  i_pushI 0 (wp_X9_isBetween_33 P X)
set_option maxRecDepth 20000 in
theorem go_X9_isBetween_32 {z : zT} {P : Option Value → hp_T → Prop} {X : String → hp_T → Prop} (hz : Cx z cX9_isBetween 3 "PanelryModel" "isBetween" 0 0 0) (hr : Rt z (some .boolean) P X 0 0) : Go z 0 0 32 (wp_X9_isBetween_32 P X) := 
  s_iconst hz rfl dX9_isBetween_32 (go_X9_isBetween_33 hz hr)
def wp_X9_isBetween_25 (P : Option Value → hp_T → Prop) (X : String → hp_T → Prop) : KT :=
  i_icgt (wp_X9_isBetween_32 P X) (i_pushI 1 (wp_X9_isBetween_33 P X))
set_option maxRecDepth 20000 in
theorem go_X9_isBetween_25 {z : zT} {P : Option Value → hp_T → Prop} {X : String → hp_T → Prop} (hz : Cx z cX9_isBetween 3 "PanelryModel" "isBetween" 0 0 0) (hr : Rt z (some .boolean) P X 0 0) : Go z 0 0 25 (wp_X9_isBetween_25 P X) := 
  s_icgt hz (tgt := 32) rfl dX9_isBetween_25 (go_X9_isBetween_32 hz hr) (s_iconst hz rfl dX9_isBetween_28 (s_goto hz (tgt := 33) rfl dX9_isBetween_29 (go_X9_isBetween_33 hz hr)))
def wp_X9_isBetween_11 (P : Option Value → hp_T → Prop) (X : String → hp_T → Prop) : KT :=
  i_iclt (wp_X9_isBetween_32 P X) (i_iload 0 (i_iload 1 (i_iload 2 (i_icge (i_iload 1 (wp_X9_isBetween_25 P X)) (i_iload 2 (wp_X9_isBetween_25 P X))))))
set_option maxRecDepth 20000 in
theorem go_X9_isBetween_11 {z : zT} {P : Option Value → hp_T → Prop} {X : String → hp_T → Prop} (hz : Cx z cX9_isBetween 3 "PanelryModel" "isBetween" 0 0 0) (hr : Rt z (some .boolean) P X 0 0) : Go z 0 0 11 (wp_X9_isBetween_11 P X) := 
  s_iclt hz (tgt := 32) rfl dX9_isBetween_11 (go_X9_isBetween_32 hz hr) (s_iload_n hz rfl dX9_isBetween_14 (s_iload_n hz rfl dX9_isBetween_15 (s_iload_n hz rfl dX9_isBetween_16 (s_icge hz
    (tgt := 24) rfl dX9_isBetween_17 (s_iload_n hz rfl dX9_isBetween_24 (go_X9_isBetween_25 hz hr)) (s_iload_n hz rfl dX9_isBetween_20 (s_goto hz (tgt := 25) rfl dX9_isBetween_21 (go_X9_isBetween_25 hz hr)))))))
def wp_X9_isBetween_0 (P : Option Value → hp_T → Prop) (X : String → hp_T → Prop) : KT :=
  i_iload 0 (i_iload 1 (i_iload 2 (i_icge (i_iload 2 (wp_X9_isBetween_11 P X)) (i_iload 1 (wp_X9_isBetween_11 P X)))))
set_option maxRecDepth 20000 in
theorem go_X9_isBetween_0 {z : zT} {P : Option Value → hp_T → Prop} {X : String → hp_T → Prop} (hz : Cx z cX9_isBetween 3 "PanelryModel" "isBetween" 0 0 0) (hr : Rt z (some .boolean) P X 0 0) : Go z 0 0 0 (wp_X9_isBetween_0 P X) := 
  s_iload_n hz rfl dX9_isBetween_0 (s_iload_n hz rfl dX9_isBetween_1 (s_iload_n hz rfl dX9_isBetween_2 (s_icge hz (tgt := 10) rfl dX9_isBetween_3 (s_iload_n hz rfl dX9_isBetween_10 (go_X9_isBetween_11 hz hr))
    (s_iload_n hz rfl dX9_isBetween_6 (s_goto hz (tgt := 11) rfl dX9_isBetween_7 (go_X9_isBetween_11 hz hr))))))

def T_X9_isBetween : PT := fun av h P X => match av with
  | [.int v, .int a, .int b] => (True) ∧ (P (some (.int (bI (btw v a b)))) h)
  | _ => False
theorem tx_X9_isBetween (v : Int32) (a : Int32) (b : Int32) (h : hp_T) (P : Option Value → hp_T → Prop) (X : String → hp_T → Prop) : T_X9_isBetween [.int v, .int a, .int b] h P X = ((True) ∧ (P (some (.int (bI (btw v a b)))) h)) := rfl
set_option maxRecDepth 20000 in
theorem ct_X9_isBetween : CT yX9_isBetween cX9_isBetween 3 (some .boolean) 0 0 0 T_X9_isBetween := by
  refine ct_ofE (by decide) (fun z av h P X hT hz hr => ?_) (fun av h P X hT => ?_)
  · unfold T_X9_isBetween at hT
    split at hT
    · refine ⟨_, go_X9_isBetween_0 hz hr, ?_⟩
      rename_i v a b
      show wp_X9_isBetween_0 P X [some (.int v), some (.int a), some (.int b)] [] h
      obtain ⟨hk, hp⟩ := hT
      unfold btw at hp
      simp only [wp_X9_isBetween_33, wp_X9_isBetween_32, wp_X9_isBetween_25, wp_X9_isBetween_11, wp_X9_isBetween_0, i_mmax, i_mmin, i_pushI, i_pushN, i_pushL, i_iload, i_aload, i_istore, i_astore, i_iinc, i_iadd, i_isub, i_imul, i_iand, i_ior, i_ixor, i_ishl, i_ishr, i_iushr, i_idiv, i_i2l, i_lcmp, i_dup, i_pop, i_dupx1, i_dup2, i_ifeq, i_ifne, i_iflt, i_ifge, i_ifgt, i_ifle, i_iceq, i_icne, i_iclt, i_icge, i_icgt, i_icle, i_ifnull, i_aceq, i_getI, i_getR, i_putI, i_putZ, i_putR, i_new, i_newarr, i_ald, i_lald, i_aald, i_alen, i_ast, i_zast, i_last, i_aast, i_aastL, i_cast, i_gste, i_ldcM, i_getC, i_acopy, i_dead, i_objinit, i_callV, i_callS, i_callI, i_iret, i_zret, i_aret, i_vret, i_throw, popN, pushO, lget, lset, isRf_ref, isRf_null, isRf_rf, isC1_int, isC1_ref, isC1_null, isC1_rf, true_and, and_true, List.length_cons, List.length_nil, Nat.reduceAdd, Nat.reduceLeDiff, hK_sI, hN_sI, hR_sI, hI_sI, hK_sR, hN_sR, hR_sR, hI_sR, kC_2, kC_3, kC_4, kC_5, kC_6, kC_7, kC_8, kC_9, kC_10, kC_11, kC_20, kC_21, kC_22, kC_23, i2_0, i1_1, i0_1, i1_0, bI_and, bI_0, Decidable.not_not, not_false_eq_true, not_true_eq_false, forall_const, false_implies, true_implies, hK_copy, hN_copy, hI_copy, hC_sI, hC_sR, hC_new, hK_new, hN_new, hI_new, hR_new, rf_some, rf_none, ex_ref, ex_null, ex_rf, nref_null, rf_null, Nat.reduceEqDiff, reduceCtorEq, false_and, and_false, if_false, if_true, ne_eq, kO_150, kO_151, kO_152, kO_170, kO_180, kO_190, Value.ref.injEq, exists_eq_left', false_or, hk]
      (repeat' (first | (apply And.intro) | (intro _)))
      all_goals first | exact hp | (rw [bI_t (by clear hp; grind)] at hp; exact hp) | (rw [bI_f (by clear hp; grind)] at hp; exact hp) | (simp_all; done)
    · exact hT.elim
  · unfold T_X9_isBetween at hT
    split at hT
    · exact ⟨Nat.le_of_ble_eq_true rfl, by simp [isC1_int, isC1_ref, isC1_null, isC1_rf]⟩
    · exact hT.elim
