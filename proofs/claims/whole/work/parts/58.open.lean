theorem eq_divide {S : CS} {M : MSt} (hR : Rel S M) (a1 a2 a3 a4 a5 : Int32) : (cDiv S a1 a2 a3 a4 a5).1 = (mDiv M a1 a2 a3 a4 a5).1 ∧ Rel (cDiv S a1 a2 a3 a4 a5).2 (mDiv M a1 a2 a3 a4 a5).2 := by
  sorry
theorem zz58 : True := trivial
