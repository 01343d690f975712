abbrev MSt : Type := (Nat → Int32) × (Nat → Int32) × Int32 × Int32 × (Nat → Int64) × (Nat → Int32) × Int32 × Int32 × Int64 × Int32
def mW (K : KT) (bd : Nat → Nat) (M : MSt) (X : va_W) : va_W := oB (bd 0) 2 [.ref (bd 1), .ref (bd 2), .int M.2.2.1, .int M.2.2.2.1, .ref (bd 3), .ref (bd 4), .int M.2.2.2.2.2.2.1, .int M.2.2.2.2.2.2.2.1, .long M.2.2.2.2.2.2.2.2.1, .int M.2.2.2.2.2.2.2.2.2] :: aI K (bd 1) 12 M.1 :: aI K (bd 2) 12 M.2.1 :: aJ K (bd 3) 130 M.2.2.2.2.1 :: aI K (bd 4) 130 M.2.2.2.2.2.1 :: X
abbrev dyM (M : MSt) (s : Int32) : Int32 := M.1 s.toNatClampNeg
abbrev sgM (M : MSt) (s : Int32) : Int32 := M.2.1 s.toNatClampNeg
abbrev fdM (M : MSt) : Int32 := M.2.2.2.2.2.2.1
abbrev fsM (M : MSt) : Int32 := M.2.2.2.2.2.2.2.1
def wO (M : MSt) (i : Nat) : Int64 := wM (M.2.1 i) (M.1 i).toNatClampNeg
abbrev HD (M : MSt) : Prop := ∀ i : Nat, i < 12 → ∃ k : Nat, k ≤ 24 ∧ M.1 i = nI k
theorem HD.r {M : MSt} (h : HD M) {s : Int32} (hs : isReg s = true) : ∃ k : Nat, k ≤ 24 ∧ dyM M s = nI k := h _ (vp_lt (isReg_in hs))
theorem isReg_nI {i : Nat} (h : i < 12) : isReg (nI i) = true := by
  unfold isReg
  rw [decide_eq_false (nI_pos (by omega)), decide_eq_false (show ¬ (12 : Int32) ≤ nI i from nI_ge (b := 12) h (by decide))]; rfl
