theorem eq_term {S : CS} {M : MSt} (hR : Rel S M) (a1 a2 a3 a4 : Int32) : (cTerm S a1 a2 a3 a4).1 = (mTerm M a1 a2 a3 a4).1 ∧ Rel (cTerm S a1 a2 a3 a4).2 (mTerm M a1 a2 a3 a4).2 := by
  sorry
theorem eq_sum {S : CS} {M : MSt} (hR : Rel S M) (a1 a2 a3 a4 : Int32) : (cSum S a1 a2 a3 a4).1 = (mSum M a1 a2 a3 a4).1 ∧ Rel (cSum S a1 a2 a3 a4).2 (mSum M a1 a2 a3 a4).2 := by
  sorry
theorem eq_divide {S : CS} {M : MSt} (hR : Rel S M) (a1 a2 a3 a4 a5 : Int32) : (cDiv S a1 a2 a3 a4 a5).1 = (mDiv M a1 a2 a3 a4 a5).1 ∧ Rel (cDiv S a1 a2 a3 a4 a5).2 (mDiv M a1 a2 a3 a4 a5).2 := by
  sorry
theorem eq_order {S : CS} {M : MSt} (hR : Rel S M) (a1 a2 : Int32) : (cOrd S a1 a2).1 = (mOrd M a1 a2).1 ∧ Rel (cOrd S a1 a2).2 (mOrd M a1 a2).2 := by
  sorry
theorem eq_take {S : CS} {M : MSt} (hR : Rel S M) (a1 a2 : Int32) : (cTake S a1 a2).1 = (mTake M a1 a2).1 ∧ Rel (cTake S a1 a2).2 (mTake M a1 a2).2 := by
  sorry
theorem eq_near {S : CS} {M : MSt} (hR : Rel S M) (a1 a2 : Int32) : (cNear S a1 a2).1 = (mNear M a1 a2).1 ∧ Rel (cNear S a1 a2).2 (mNear M a1 a2).2 := by
  sorry
theorem zz58 : True := trivial
