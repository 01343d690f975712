theorem eq_row {S : CS} {M : MSt} (hR : Rel S M) (a1 a2 a3 : Int32) : (cRow S a1 a2 a3).1 = (mRow M a1 a2 a3).1 ∧ Rel (cRow S a1 a2 a3).2 (mRow M a1 a2 a3).2 := by
  sorry
theorem eq_number {S : CS} {M : MSt} (hR : Rel S M) (a1 a2 a3 : Int32) : (cNum S a1 a2 a3).1 = (mNum M a1 a2 a3).1 ∧ Rel (cNum S a1 a2 a3).2 (mNum M a1 a2 a3).2 := by
  sorry
theorem eq_at {S : CS} {M : MSt} (hR : Rel S M) (a1 a2 : Int32) : cAt S a1 a2 = mAt M a1 a2 := by
  sorry
theorem eq_value {S : CS} {M : MSt} (hR : Rel S M) (a1 a2 : Int32) : cVal S a1 a2 = mVal M a1 a2 := by
  sorry
theorem eq_against {S : CS} {M : MSt} (hR : Rel S M) (a1 a2 : Int32) : cAgn S a1 a2 = mAgn M a1 a2 := by
  sorry
theorem eq_work {S : CS} {M : MSt} (hR : Rel S M) (a1 a2 a3 a4 : Int32) : (cWork S a1 a2 a3 a4).1 = (mWork M a1 a2 a3 a4).1 ∧ Rel (cWork S a1 a2 a3 a4).2 (mWork M a1 a2 a3 a4).2 := by
  sorry
theorem eq_side {S : CS} {M : MSt} (hR : Rel S M) (a1 a2 a3 : Int32) : (cSide S a1 a2 a3).1 = (mSide M a1 a2 a3).1 ∧ Rel (cSide S a1 a2 a3).2 (mSide M a1 a2 a3).2 := by
  sorry
theorem eq_cut {S : CS} {M : MSt} (hR : Rel S M) (a1 a2 a3 : Int32) : (cCut S a1 a2 a3).1 = (mCut M a1 a2 a3).1 ∧ Rel (cCut S a1 a2 a3).2 (mCut M a1 a2 a3).2 := by
  sorry
theorem eq_pair {S : CS} {M : MSt} (hR : Rel S M) (a1 : Int32) : cPair S a1 = mPair M a1 := by
  sorry
theorem eq_born {S : CS} {M : MSt} (hR : Rel S M) (a1 a2 a3 : Int32) : (cBorn S a1 a2 a3).1 = (mBorn M a1 a2 a3).1 ∧ Rel (cBorn S a1 a2 a3).2 (mBorn M a1 a2 a3).2 := by
  sorry
theorem eq_between {S : CS} {M : MSt} (hR : Rel S M) (a1 a2 a3 : Int32) : cBet S a1 a2 a3 = mBet M a1 a2 a3 := by
  sorry
theorem eq_wins {S : CS} {M : MSt} (hR : Rel S M) (a1 a2 : Int32) : cWins S a1 a2 = mWins M a1 a2 := by
  sorry
theorem eq_term {S : CS} {M : MSt} (hR : Rel S M) (a1 a2 a3 a4 : Int32) : (cTerm S a1 a2 a3 a4).1 = (mTerm M a1 a2 a3 a4).1 ∧ Rel (cTerm S a1 a2 a3 a4).2 (mTerm M a1 a2 a3 a4).2 := by
  sorry
theorem eq_told {S : CS} {M : MSt} (hR : Rel S M) (a1 a2 a3 : Int32) : cTold S a1 a2 a3 = mTold M a1 a2 a3 := by
  sorry
theorem eq_sum {S : CS} {M : MSt} (hR : Rel S M) (a1 a2 a3 a4 : Int32) : (cSum S a1 a2 a3 a4).1 = (mSum M a1 a2 a3 a4).1 ∧ Rel (cSum S a1 a2 a3 a4).2 (mSum M a1 a2 a3 a4).2 := by
  sorry
theorem eq_divide {S : CS} {M : MSt} (hR : Rel S M) (a1 a2 a3 a4 a5 : Int32) : (cDiv S a1 a2 a3 a4 a5).1 = (mDiv M a1 a2 a3 a4 a5).1 ∧ Rel (cDiv S a1 a2 a3 a4 a5).2 (mDiv M a1 a2 a3 a4 a5).2 := by
  sorry
theorem eq_order {S : CS} {M : MSt} (hR : Rel S M) (a1 a2 : Int32) : (cOrd S a1 a2).1 = (mOrd M a1 a2).1 ∧ Rel (cOrd S a1 a2).2 (mOrd M a1 a2).2 := by
  sorry
theorem eq_take {S : CS} {M : MSt} (hR : Rel S M) (a1 a2 : Int32) : (cTake S a1 a2).1 = (mTake M a1 a2).1 ∧ Rel (cTake S a1 a2).2 (mTake M a1 a2).2 := by
  sorry
theorem eq_near {S : CS} {M : MSt} (hR : Rel S M) (a1 a2 : Int32) : (cNear S a1 a2).1 = (mNear M a1 a2).1 ∧ Rel (cNear S a1 a2).2 (mNear M a1 a2).2 := by
  sorry
theorem zz58 : True := trivial
