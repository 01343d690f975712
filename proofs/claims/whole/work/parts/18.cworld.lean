abbrev CS : Type := Int32 × Int32 × (Nat → Int32) × (Nat → Int32) × (Nat → Int64) × (Nat → Nat → Int64)
def soF (ad : Nat → Nat) : Nat → Option Nat := fun z => if z < 8 then some (ad (5 + z)) else none
def cW (K : KT) (ad : Nat → Nat) (S : CS) (X : va_W) : va_W := oB (ad 0) 1 [.ref (ad 1), .ref (ad 2), .ref (ad 3), .int S.1, .int S.2.1, .ref (ad 4), .ref (ad 13), .ref (ad 14)] :: aI K (ad 1) 12 S.2.2.1 :: aI K (ad 2) 12 S.2.2.2.1 :: aJ K (ad 3) 12 S.2.2.2.2.1 :: aO K (ad 4) 8 (soF ad) :: (((List.range 10).map fun z => oB (ad (5 + z)) 0 [.ref (ad (15 + z))]) ++ (((List.range 10).map fun z => aJ K (ad (15 + z)) 13 (S.2.2.2.2.2 z)) ++ X))
def uF (F : Nat → Nat → Int64) (z : Nat) (g : Nat → Int64) : Nat → Nat → Int64 := fun y => if y = z then g else F y
theorem cW_S {K : KT} {ad : Nat → Nat} {S : CS} {X : va_W} {z : Nat} (h : z < 10) : (cW K ad S X)[5 + z]? = some (oB (ad (5 + z)) 0 [.ref (ad (15 + z))]) := by
  rw [show 5 + z = z + 5 from Nat.add_comm _ _]
  show ((((List.range 10).map fun z => oB (ad (5 + z)) 0 [.ref (ad (15 + z))]) ++ (((List.range 10).map fun z => aJ K (ad (15 + z)) 13 (S.2.2.2.2.2 z)) ++ X)))[z]? = _
  rw [List.getElem?_append_left (by simp; exact h)]
  simp [h, Nat.add_comm]
theorem cW_A {K : KT} {ad : Nat → Nat} {S : CS} {X : va_W} {z : Nat} (h : z < 10) : (cW K ad S X)[15 + z]? = some (aJ K (ad (15 + z)) 13 (S.2.2.2.2.2 z)) := by
  rw [show 15 + z = (z + 10) + 5 from by omega]
  show ((((List.range 10).map fun z => oB (ad (5 + z)) 0 [.ref (ad (15 + z))]) ++ (((List.range 10).map fun z => aJ K (ad (15 + z)) 13 (S.2.2.2.2.2 z)) ++ X)))[z + 10]? = _
  rw [List.getElem?_append_right (by simp)]
  rw [List.getElem?_append_left (by simp; exact h)]
  simp [h]
  rw [show z + 10 + 5 = 15 + z from by omega]
theorem cW_set {K : KT} {ad : Nat → Nat} {S : CS} {X : va_W} {z : Nat} {g : Nat → Int64} (h : z < 10) : (cW K ad S X).set (15 + z) (aJ K (ad (15 + z)) 13 g) = cW K ad (S.1, S.2.1, S.2.2.1, S.2.2.2.1, S.2.2.2.2.1, uF S.2.2.2.2.2 z g) X := by
  apply List.ext_getElem?
  intro i
  rw [List.getElem?_set]
  by_cases hi : 15 + z = i
  · subst hi
    rw [if_pos rfl, cW_A h]
    have hl : 15 + z < (cW K ad S X).length := by simp [cW]; omega
    rw [if_pos hl]
    simp [uF]
  · rw [if_neg hi]
    by_cases h2 : 15 ≤ i ∧ i < 25
    · obtain ⟨y, rfl⟩ : ∃ y, i = 15 + y := ⟨i - 15, by omega⟩
      rw [cW_A (by omega), cW_A (by omega)]
      have : y ≠ z := by omega
      simp [uF, this]
    · rcases Nat.lt_or_ge i 15 with h3 | h3
      · rcases Nat.lt_or_ge i 5 with h4 | h4
        · match i, h4 with
          | 0, _ => rfl
          | 1, _ => rfl
          | 2, _ => rfl
          | 3, _ => rfl
          | 4, _ => rfl
        · obtain ⟨y, rfl⟩ : ∃ y, i = 5 + y := ⟨i - 5, by omega⟩
          rw [cW_S (by omega), cW_S (by omega)]
      · obtain ⟨y, rfl⟩ : ∃ y, i = (y + 10 + 10) + 5 := ⟨i - 25, by omega⟩
        show ((((List.range 10).map fun z => oB (ad (5 + z)) 0 [.ref (ad (15 + z))]) ++ (((List.range 10).map fun z => aJ K (ad (15 + z)) 13 (S.2.2.2.2.2 z)) ++ X)))[y + 10 + 10]? = ((((List.range 10).map fun z => oB (ad (5 + z)) 0 [.ref (ad (15 + z))]) ++ (((List.range 10).map fun y => aJ K (ad (15 + y)) 13 (uF S.2.2.2.2.2 z g y)) ++ X)))[y + 10 + 10]?
        rw [List.getElem?_append_right (by simp), List.getElem?_append_right (by simp), List.getElem?_append_right (by simp), List.getElem?_append_right (by simp)]
        simp
theorem isReg_in {x : Int32} (h : isReg x = true) : vp_in x 12 := by
  simp only [isReg, Bool.and_eq_true, Bool.not_eq_true', decide_eq_false_iff_not] at h
  rw [vp_in_iff]
  have h1 := h.1
  have h2 := h.2
  rw [Int32.lt_iff_toInt_lt] at h1
  rw [Int32.le_iff_toInt_le] at h2
  have e0 : (0 : Int32).toInt = 0 := rfl
  have e12 : (12 : Int32).toInt = 12 := rfl
  omega
theorem isSm_in {x : Int32} (h : isSm x = true) : vp_in x 8 := by
  simp only [isSm, Bool.and_eq_true, Bool.not_eq_true', decide_eq_false_iff_not] at h
  rw [vp_in_iff]
  have h1 := h.1
  have h2 := h.2
  rw [Int32.lt_iff_toInt_lt] at h1
  rw [Int32.le_iff_toInt_le] at h2
  have e0 : (0 : Int32).toInt = 0 := rfl
  have e8 : (8 : Int32).toInt = 8 := rfl
  omega
theorem vp_lt {x : Int32} {n : Nat} (h : vp_in x n) : x.toNatClampNeg < n := Nat.not_le.mp fun q => h (Or.inr q)
theorem soF_in {ad : Nat → Nat} {x : Int32} (h : isSm x = true) : soF ad x.toNatClampNeg = some (ad (5 + x.toNatClampNeg)) := if_pos (vp_lt (isSm_in h))
theorem isSm_z {x : Int32} (h : isSm x = true) : x.toNatClampNeg < 10 := Nat.lt_trans (vp_lt (isSm_in h)) (by decide)
