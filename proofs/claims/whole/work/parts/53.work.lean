theorem WM_eq {S : CS} {M : MSt} (hR : Rel S M) {s : Int32} {w v : Int64} (hv : v.toInt = 2 * w.toInt) : (cHV S s w).1 = (mKH s (mHas M v 24)).1 ∧ Rel (cHV S s w).2 (mKH s (mHas M v 24)).2 := by
  obtain ⟨r1, r2, r3⟩ := rd_spec 24 v
  unfold mHas
  have hd : (rdM 24 v).2 ≤ 23 := by
    rcases Nat.lt_or_ge 23 (rdM 24 v).2 with q | q
    · have e : (rdM 24 v).2 = 24 := by omega
      rw [e] at r2 r3
      rw [Nat.sub_self, Int.pow_zero, Int.mul_one] at r2
      omega
    · exact q
  refine HV_eq hR hd ?_
  rw [show 24 - (rdM 24 v).2 = (23 - (rdM 24 v).2) + 1 from by omega, Int.pow_succ, ← Int.mul_assoc] at r2
  omega
theorem tdc (z : Int) : (0 ≤ z ∧ z.tdiv 8388608 = z / 8388608) ∨ (z < 0 ∧ z.tdiv 8388608 = -((-z) / 8388608)) := by
  by_cases h : z < 0
  · refine Or.inr ⟨h, ?_⟩
    have e := Int.neg_tdiv (-z) 8388608
    rw [Int.neg_neg] at e
    rw [e, Int.tdiv_eq_ediv_of_nonneg (by omega)]
  · exact Or.inl ⟨by omega, Int.tdiv_eq_ediv_of_nonneg (by omega)⟩
theorem divc (w : Int64) : (w / 8388608).toInt = w.toInt.tdiv 8388608 := by
  rw [Int64.toInt_div, show (8388608 : Int64).toInt = 8388608 from rfl, Int.bmod_def]
  have h1 := Int64.toInt_lt w
  have h2 := Int64.le_toInt w
  have h3 := tdc w.toInt
  omega
theorem remc (w : Int64) : w - w / 8388608 * 8388608 = 0 ↔ w.toInt % 8388608 = 0 := by
  have h1 := Int64.toInt_lt w
  have h2 := Int64.le_toInt w
  have h3 := tdc w.toInt
  have e : (w - w / 8388608 * 8388608).toInt = w.toInt - w.toInt.tdiv 8388608 * 8388608 := by
    rw [Int64.toInt_sub, Int64.toInt_mul, divc, show (8388608 : Int64).toInt = 8388608 from rfl, Int.bmod_def, Int.bmod_def]
    omega
  rw [← Int64.toInt_inj, e, show (0 : Int64).toInt = 0 from rfl]
  omega
theorem HP_eq {S : CS} {M : MSt} (hR : Rel S M) {s : Int32} {w v : Int64} (hv : v.toInt = 4 * w.toInt) : (cHP S s w).1 = (mKH s (mHas M v 48)).1 ∧ Rel (cHP S s w).2 (mKH s (mHas M v 48)).2 := by
  obtain ⟨r1, r2, r3⟩ := rd_spec 48 v
  unfold mHas cHP
  generalize (rdM 48 v).1 = u at r2 r3 ⊢
  generalize (rdM 48 v).2 = d at r1 r2 r3 ⊢
  by_cases hd : d ≤ 23
  · have e1 : w.toInt = (u.toInt * 2 ^ (23 - d)) * 8388608 := by
      rw [show 48 - d = (23 - d) + 25 from by omega, Int.pow_add, ← Int.mul_assoc, show (2 : Int) ^ 25 = 33554432 from by decide] at r2
      omega
    rw [if_pos ((remc w).mpr (by omega))]
    refine HV_eq hR hd ?_
    have h3 := tdc w.toInt
    rw [divc]
    omega
  · have hnd : ¬ w.toInt % 8388608 = 0 := by
      intro h
      have ho : u.toInt % 2 = 1 := by rcases r3 with q | q; omega; exact q
      have e2 : v.toInt = (w.toInt / 8388608) * 33554432 := by omega
      rw [e2, show (33554432 : Int) = 2 ^ (d - 23) * 2 ^ (48 - d) from by rw [← Int.pow_add, show d - 23 + (48 - d) = 25 from by omega]; decide, ← Int.mul_assoc] at r2
      have e3 := Int.eq_of_mul_eq_mul_right (by have := pw_pos (48 - d); omega) r2
      rw [show d - 23 = (d - 24) + 1 from by omega, Int.pow_succ, ← Int.mul_assoc] at e3
      omega
    rw [if_neg (fun q => hnd ((remc w).mp q))]
    unfold mKH hasR
    rw [if_pos (show (23 : Int32) < nI d from nI_lt (a := 23) (by omega) (by omega))]
    exact ⟨rfl, hR⟩
theorem eq_work {S : CS} {M : MSt} (hR : Rel S M) (a1 a2 a3 a4 : Int32) : (cWork S a1 a2 a3 a4).1 = (mWork M a1 a2 a3 a4).1 ∧ Rel (cWork S a1 a2 a3 a4).2 (mWork M a1 a2 a3 a4).2 := by
  unfold cWork mWork
  rw [inL_gen a2 0 3 (a := 0) (b := 3) rfl rfl]
  cases isReg a1 with
  | false => rw [cond_false, cond_false]; exact ⟨rfl, hR⟩
  | true =>
    rw [cond_true, cond_true]
    by_cases h0 : a2 < 0
    · rw [if_pos h0, decide_eq_true h0]; exact ⟨rfl, hR⟩
    · rw [if_neg h0, decide_eq_false h0]
      by_cases h1 : 3 < a2
      · rw [if_pos h1, decide_eq_true h1]; exact ⟨rfl, hR⟩
      · rw [if_neg h1, decide_eq_false h1, show (!false && !false) = true from rfl, cond_true]
        cases h2 : isReg a3 with
        | false => rw [cond_false, cond_false]; exact ⟨rfl, hR⟩
        | true =>
          rw [cond_true, cond_true]
          have e3 : (wO M a3.toNatClampNeg).toInt = 2 * (vlC S a3).toInt := hR.vw (reg_lt h2)
          have b3 : -201326592 ≤ (vlC S a3).toInt ∧ (vlC S a3).toInt ≤ 201326592 := hR.vb (reg_lt h2)
          generalize wO M a3.toNatClampNeg = v3 at e3 ⊢
          generalize vlC S a3 = x3 at e3 b3 ⊢
          by_cases h3 : a2 = 3
          · rw [if_pos h3, if_pos (by rw [h3]; decide)]
            refine WM_eq hR ?_
            rw [Int64.toInt_neg, Int64.toInt_neg, e3, Int.bmod_def, Int.bmod_def]; omega
          · have h3b : ¬ 3 ≤ a2 := by
              rw [Int32.le_iff_toInt_le]
              rw [Int32.lt_iff_toInt_lt] at h1
              have q : a2.toInt ≠ 3 := fun q => h3 (Int32.toInt_inj.mp q)
              have e : (3 : Int32).toInt = 3 := rfl
              omega
            rw [if_neg h3, if_neg h3b]
            cases h4 : isReg a4 with
            | false => rw [cond_false, cond_false]; exact ⟨rfl, hR⟩
            | true =>
              rw [cond_true, cond_true]
              have e4 : (wO M a4.toNatClampNeg).toInt = 2 * (vlC S a4).toInt := hR.vw (reg_lt h4)
              have b4 : -201326592 ≤ (vlC S a4).toInt ∧ (vlC S a4).toInt ≤ 201326592 := hR.vb (reg_lt h4)
              generalize wO M a4.toNatClampNeg = v4 at e4 ⊢
              generalize vlC S a4 = x4 at e4 b4 ⊢
              by_cases q0 : a2 = 0
              · rw [if_neg (show ¬ a2 = 2 by rw [q0]; decide), if_pos q0, if_pos q0]
                refine WM_eq hR ?_
                rw [Int64.toInt_add, Int64.toInt_add, e3, e4, Int.bmod_def, Int.bmod_def]; omega
              · by_cases q1 : a2 = 1
                · rw [if_neg (show ¬ a2 = 2 by rw [q1]; decide), if_neg q0, if_neg q0, if_pos q1]
                  refine WM_eq hR ?_
                  rw [Int64.toInt_sub, Int64.toInt_sub, e3, e4, Int.bmod_def, Int.bmod_def]; omega
                · have q2 : a2 = 2 := by
                    rcases how3 (h := a2) (by rw [inL_gen a2 0 3 (a := 0) (b := 3) rfl rfl, decide_eq_false h0, decide_eq_false h1]; rfl) h3b with z | z | z
                    · exact absurd z q0
                    · exact absurd z.2 q1
                    · exact z.2.2
                  rw [if_pos q2, if_neg q0, if_neg q1]
                  refine HP_eq hR ?_
                  have m1 : x3.toInt * x4.toInt ≤ 201326592 * 201326592 := by
                    have : (x3.toInt * x4.toInt).natAbs ≤ 201326592 * 201326592 := by rw [Int.natAbs_mul]; exact Nat.mul_le_mul (by omega) (by omega)
                    omega
                  have m2 : -(201326592 * 201326592) ≤ x3.toInt * x4.toInt := by
                    have : (x3.toInt * x4.toInt).natAbs ≤ 201326592 * 201326592 := by rw [Int.natAbs_mul]; exact Nat.mul_le_mul (by omega) (by omega)
                    omega
                  have e5 : (2 * x3.toInt) * (2 * x4.toInt) = 4 * (x3.toInt * x4.toInt) := by
                    rw [Int.mul_assoc, Int.mul_left_comm x3.toInt 2, ← Int.mul_assoc]; rfl
                  rw [Int64.toInt_mul, Int64.toInt_mul, e3, e4, e5]
                  generalize x3.toInt * x4.toInt = t at m1 m2 ⊢
                  rw [Int.bmod_def, Int.bmod_def]; omega
