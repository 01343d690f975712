theorem rd_scale {K m : Nat} {X Y : Int64} (h : m ≤ K) (e : X.toInt = Y.toInt * 2 ^ (K - m)) : rdM K X = rdM m Y := by
  obtain ⟨r1, r2, r3⟩ := rd_spec m Y
  obtain ⟨u1, u2⟩ := rd_of (k := K) (a := X) (u := (rdM m Y).1.toInt) (d := (rdM m Y).2) (by omega) r3 (by rw [e, r2, Int.mul_assoc, ← Int.pow_add, show m - (rdM m Y).2 + (K - m) = K - (rdM m Y).2 from by omega])
  exact Prod.ext (Int64.toInt_inj.mp u1) u2
theorem pl_scale {K m : Nat} {X Y : Int64} (h : m ≤ K) (e : X.toInt = Y.toInt * 2 ^ (K - m)) : plM X K = plM Y m := by
  unfold plM; rw [rd_scale h e]
theorem pl_iff {a : Int64} {k : Nat} (hk : k < 2 ^ 31) : plM a k = true ↔ -1000000000 ≤ (rdM k a).1.toInt ∧ (rdM k a).1.toInt ≤ 1000000000 ∧ (rdM k a).2 ≤ 20 := by
  have hd := (rd_spec k a).1
  have em : (-1000000000 : Int64).toInt = -1000000000 := by decide
  have ex : (1000000000 : Int64).toInt = 1000000000 := by decide
  have ed : (20 : Int32) < nI (rdM k a).2 ↔ 20 < (rdM k a).2 := nI_ltI (a := 20) (by decide) (by omega)
  unfold plM inL
  constructor
  · intro h
    by_cases h1 : (rdM k a).1 < -1000000000
    · rw [decide_eq_true h1] at h; cases h
    · by_cases h2 : 1000000000 < (rdM k a).1
      · rw [decide_eq_false h1, decide_eq_true h2] at h; cases h
      · rw [decide_eq_false h1, decide_eq_false h2, show (!false && !false) = true from rfl, cond_true] at h
        rw [Int64.lt_iff_toInt_lt] at h1 h2
        by_cases h3 : (20 : Int32) < nI (rdM k a).2
        · rw [if_pos h3] at h; cases h
        · exact ⟨by omega, by omega, by rw [ed] at h3; omega⟩
  · rintro ⟨h1, h2, h3⟩
    rw [decide_eq_false (show ¬ (rdM k a).1 < -1000000000 by rw [Int64.lt_iff_toInt_lt]; omega), decide_eq_false (show ¬ 1000000000 < (rdM k a).1 by rw [Int64.lt_iff_toInt_lt]; omega), show (!false && !false) = true from rfl, cond_true, if_neg (by rw [ed]; omega)]
theorem facO_eq (x : Int64) {k : Nat} (hk : k < 64) : facO x (nI k) = bif plM x k then shlL (rdM k x).1 (nI (20 - (rdM k x).2)) else 1152921504606846976 := by
  obtain ⟨l1, l2⟩ := lb_spec x hk
  have hd := (rd_spec k x).1
  have hp := pl_iff (a := x) (k := k) (by omega)
  have em : (-1000000000 : Int64).toInt = -1000000000 := by decide
  have ex : (1000000000 : Int64).toInt = 1000000000 := by decide
  have ed : (20 : Int32) < nI (rdM k x).2 ↔ 20 < (rdM k x).2 := nI_ltI (a := 20) (by decide) (by omega)
  unfold facO
  rw [l2, l1]
  cases hq : plM x k with
  | true =>
    obtain ⟨h1, h2, h3⟩ := hp.mp hq
    rw [cond_true, if_neg (by rw [ed]; omega), if_neg (by rw [Int64.lt_iff_toInt_lt]; omega), if_pos (by rw [Int64.le_iff_toInt_le]; omega), show (20 : Int32) = nI 20 from rfl, pk_sub (by omega)]
  | false =>
    rw [cond_false]
    have hn : ¬ (-1000000000 ≤ (rdM k x).1.toInt ∧ (rdM k x).1.toInt ≤ 1000000000 ∧ (rdM k x).2 ≤ 20) := fun z => by rw [hp.mpr z] at hq; cases hq
    by_cases h1 : (20 : Int32) < nI (rdM k x).2
    · rw [if_pos h1]
    · rw [if_neg h1]
      rw [ed] at h1
      by_cases h2 : (rdM k x).1 < -1000000000
      · rw [if_pos h2]
      · rw [if_neg h2]
        rw [Int64.lt_iff_toInt_lt] at h2
        rw [if_neg (by rw [Int64.le_iff_toInt_le]; omega)]
theorem fac_v {u : Int64} {d : Nat} (h1 : -1000000000 ≤ u.toInt) (h2 : u.toInt ≤ 1000000000) : (shlL u (nI (20 - d))).toInt = u.toInt * 2 ^ (20 - d) ∧ -1048576000000000 ≤ u.toInt * 2 ^ (20 - d) ∧ u.toInt * 2 ^ (20 - d) ≤ 1048576000000000 := by
  have p0 := pw_pos (20 - d)
  have p1 : (2 : Int) ^ (20 - d) ≤ 2 ^ 20 := pw_le (by omega)
  have p2 : (2 : Int) ^ 20 = 1048576 := by decide
  have b3 : u.toInt * 2 ^ (20 - d) ≤ 1000000000 * 2 ^ (20 - d) := Int.mul_le_mul_of_nonneg_right h2 (by omega)
  have b4 : -1000000000 * 2 ^ (20 - d) ≤ u.toInt * 2 ^ (20 - d) := Int.mul_le_mul_of_nonneg_right h1 (by omega)
  have p63 : (2 : Int) ^ 63 = 9223372036854775808 := by decide
  refine ⟨shlN _ (by omega) (by omega) (by omega), by omega, by omega⟩
theorem facO_t {x : Int64} {k : Nat} (hk : k < 64) (h : plM x k = true) : PF (facO x (nI k)) (rdM k x).1 (if (rdM k x).1 = 0 then 0 else nI (rdM k x).2) ∧ ¬ facO x (nI k) = 1152921504606846976 ∧ (facO x (nI k)).toInt = (rdM k x).1.toInt * 2 ^ (20 - (rdM k x).2) := by
  obtain ⟨h1, h2, h3⟩ := (pl_iff (by omega)).mp h
  obtain ⟨v1, v2, v3⟩ := fac_v (d := (rdM k x).2) h1 h2
  have r3 := (rd_spec k x).2.2
  have em : (1152921504606846976 : Int64).toInt = 1152921504606846976 := by decide
  rw [facO_eq x hk, h, cond_true]
  refine ⟨⟨(rdM k x).2, h3, ?_, h1, h2, r3, v1⟩, fun q => ?_, v1⟩
  · by_cases z : (rdM k x).1 = 0
    · rw [if_pos z]
      rcases r3 with q | q
      · rw [q]; rfl
      · rw [z] at q; exact absurd q (by decide)
    · rw [if_neg z]
  · have := congrArg Int64.toInt q
    rw [v1, em] at this
    omega
theorem facO_f {x : Int64} {k : Nat} (hk : k < 64) (h : plM x k = false) : facO x (nI k) = 1152921504606846976 := by
  rw [facO_eq x hk, h, cond_false]
