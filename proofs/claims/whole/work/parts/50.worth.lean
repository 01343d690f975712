def rnB (b : Nat → Bool) : Nat → Bool
  | 0 => true
  | n + 1 => rnB b n && (b n == b 0)
def hvB (b : Nat → Bool) : Nat → Nat
  | 0 => 0
  | n + 1 => bif rnB b (n + 1) then hvB b n else hvB b n + 1
def sI (b : Nat → Bool) (e : Nat) : Nat → Int
  | 0 => 0
  | n + 1 => sI b e n + bif b n then 2 ^ (e - hvB b (n + 1)) else -(2 ^ (e - hvB b (n + 1)))
theorem hv_le (b : Nat → Bool) : ∀ n, hvB b (n + 1) ≤ n
  | 0 => by
    have h : rnB b 1 = true := by simp [rnB]
    show (bif rnB b 1 then hvB b 0 else hvB b 0 + 1) ≤ 0
    rw [h]; exact Nat.le_refl _
  | n + 1 => by
    have h := hv_le b n
    show (bif rnB b (n + 2) then hvB b (n + 1) else hvB b (n + 1) + 1) ≤ n + 1
    cases rnB b (n + 2) with
    | true => rw [cond_true]; omega
    | false => rw [cond_false]; omega
theorem sI_dbl (b : Nat → Bool) : ∀ n, n ≤ 24 → sI b 24 n = 2 * sI b 23 n
  | 0, _ => rfl
  | n + 1, h => by
    have ih := sI_dbl b n (by omega)
    have h2 := hv_le b n
    have e1 : (2 : Int) ^ (24 - hvB b (n + 1)) = 2 * 2 ^ (23 - hvB b (n + 1)) := by
      rw [show 24 - hvB b (n + 1) = (23 - hvB b (n + 1)) + 1 from by omega, Int.pow_succ, Int.mul_comm]
    show sI b 24 n + (bif b n then (2 : Int) ^ (24 - hvB b (n + 1)) else -(2 ^ (24 - hvB b (n + 1)))) = 2 * (sI b 23 n + bif b n then (2 : Int) ^ (23 - hvB b (n + 1)) else -(2 ^ (23 - hvB b (n + 1))))
    rw [ih, e1]
    cases b n with
    | true => rw [cond_true, cond_true]; omega
    | false => rw [cond_false, cond_false]; omega
theorem pw_pos (n : Nat) : (0 : Int) < 2 ^ n := Int.pow_pos (by decide)
theorem pw_le {m n : Nat} (h : m ≤ n) : (2 : Int) ^ m ≤ 2 ^ n := by
  obtain ⟨k, rfl⟩ := Nat.exists_eq_add_of_le h
  rw [Int.pow_add]
  have h1 := pw_pos m
  have h2 := pw_pos k
  have h3 : (2 : Int) ^ m * 1 ≤ 2 ^ m * 2 ^ k := Int.mul_le_mul_of_nonneg_left (by omega) (by omega)
  omega
theorem sI_bd (b : Nat → Bool) (e : Nat) : ∀ n : Nat, -(n * 2 ^ e) ≤ sI b e n ∧ sI b e n ≤ n * 2 ^ e
  | 0 => by simp [sI]
  | n + 1 => by
    have ih := sI_bd b e n
    have h1 := pw_pos (e - hvB b (n + 1))
    have h2 : (2 : Int) ^ (e - hvB b (n + 1)) ≤ 2 ^ e := pw_le (Nat.sub_le _ _)
    show -(((n + 1 : Nat) : Int) * 2 ^ e) ≤ sI b e n + (bif b n then (2 : Int) ^ (e - hvB b (n + 1)) else -(2 ^ (e - hvB b (n + 1)))) ∧ sI b e n + (bif b n then (2 : Int) ^ (e - hvB b (n + 1)) else -(2 ^ (e - hvB b (n + 1)))) ≤ ((n + 1 : Nat) : Int) * 2 ^ e
    rw [show (((n + 1 : Nat) : Int)) * 2 ^ e = (n : Int) * 2 ^ e + 2 ^ e from by rw [Int.natCast_add, Int.add_mul]; simp]
    cases b n with
    | true => rw [cond_true]; omega
    | false => rw [cond_false]; omega
theorem wst_int {b : Nat → Bool} {e : Nat} {one : Int64} (he : e ≤ 24) (h1 : one.toInt = 2 ^ e) : ∀ n : Nat, n ≤ 24 → n ≤ e + 1 → (wst b one n).1 = rnB b n ∧ (wst b one n).2.1.toInt = 2 ^ (e - hvB b n) ∧ (wst b one n).2.2.toInt = sI b e n
  | 0, _, _ => ⟨rfl, h1, rfl⟩
  | n + 1, hn, hn2 => by
    obtain ⟨a1, a2, a3⟩ := wst_int he h1 n (by omega) (by omega)
    have hr : ((wst b one n).1 && (b n == b 0)) = rnB b (n + 1) := by rw [a1]; rfl
    have hle := hv_le b n
    have hw : (bif rnB b (n + 1) then (wst b one n).2.1 else (wst b one n).2.1 / 2).toInt = 2 ^ (e - hvB b (n + 1)) := by
      have e3 : hvB b (n + 1) = bif rnB b (n + 1) then hvB b n else hvB b n + 1 := rfl
      cases hq : rnB b (n + 1) with
      | true => rw [hq, cond_true] at e3; rw [cond_true, a2, e3]
      | false =>
        rw [hq, cond_false] at e3
        rw [cond_false, tdiv2 (by rw [a2]; exact Int.le_of_lt (pw_pos _)), a2, e3]
        rw [show e - hvB b n = (e - (hvB b n + 1)) + 1 from by omega, Int.pow_succ]
        have := pw_pos (e - (hvB b n + 1))
        omega
    refine ⟨hr, ?_, ?_⟩
    · show (bif (wst b one n).1 && (b n == b 0) then (wst b one n).2.1 else (wst b one n).2.1 / 2).toInt = _
      rw [hr, hw]
    · show ((wst b one n).2.2 + bif b n then (bif (wst b one n).1 && (b n == b 0) then (wst b one n).2.1 else (wst b one n).2.1 / 2) else -(bif (wst b one n).1 && (b n == b 0) then (wst b one n).2.1 else (wst b one n).2.1 / 2)).toInt = sI b e n + bif b n then 2 ^ (e - hvB b (n + 1)) else -(2 ^ (e - hvB b (n + 1)))
      rw [hr]
      generalize hwv : (bif rnB b (n + 1) then (wst b one n).2.1 else (wst b one n).2.1 / 2) = w at hw ⊢
      have hb := sI_bd b e n
      have p1 := pw_pos (e - hvB b (n + 1))
      have p2 : (2 : Int) ^ (e - hvB b (n + 1)) ≤ 2 ^ 24 := pw_le (by omega)
      have p3 : (2 : Int) ^ e ≤ 2 ^ 24 := pw_le he
      have p4 : (n : Int) * 2 ^ e ≤ 24 * 2 ^ 24 := Int.mul_le_mul (by omega) p3 (Int.le_of_lt (pw_pos e)) (by decide)
      have p5 : (24 : Int) * 2 ^ 24 = 402653184 := by decide
      have p6 : (2 : Int) ^ 24 = 16777216 := by decide
      rw [p5] at p4
      rw [p6] at p2
      generalize (2 : Int) ^ (e - hvB b (n + 1)) = u at hw p1 p2 ⊢
      generalize (n : Int) * 2 ^ e = t at hb p4
      cases b n with
      | true =>
        rw [cond_true, cond_true, Int64.toInt_add, a3, hw, Int.bmod_def]
        omega
      | false =>
        rw [cond_false, cond_false, Int64.toInt_add, Int64.toInt_neg, a3, hw, Int.bmod_def, Int.bmod_def]
        omega
theorem wC_int (x : Int32) {n : Nat} (h : n ≤ 24) : (wC x n).toInt = sI (bt x) 23 n := (wst_int (e := 23) (by decide) rfl n h (by omega)).2.2
theorem wM_int (x : Int32) {n : Nat} (h : n ≤ 24) : (wM x n).toInt = 2 * sI (bt x) 23 n := by
  rw [← sI_dbl _ _ h]
  exact (wst_int (e := 24) (by decide) rfl n h (by omega)).2.2
theorem wCM (x : Int32) {n : Nat} (h : n ≤ 24) : (wM x n).toInt = 2 * (wC x n).toInt := by rw [wM_int x h, wC_int x h]
theorem wC_bd (x : Int32) {n : Nat} (h : n ≤ 24) : -201326592 ≤ (wC x n).toInt ∧ (wC x n).toInt ≤ 201326592 := by
  rw [wC_int x h]
  have h1 := sI_bd (bt x) 23 n
  have p4 : (n : Int) * 2 ^ 23 ≤ 24 * 2 ^ 23 := Int.mul_le_mul_of_nonneg_right (by omega) (by decide)
  have p5 : (24 : Int) * 2 ^ 23 = 201326592 := by decide
  omega
/-! registers of the two, side by side -/
theorem Rel.dy {S : CS} {M : MSt} (h : Rel S M) (s : Int32) : dyC S s = dyM M s := by show S.2.2.1 _ = M.1 _; rw [h.1]
theorem Rel.sg {S : CS} {M : MSt} (h : Rel S M) (s : Int32) : sgC S s = sgM M s := by show S.2.2.2.1 _ = M.2.1 _; rw [h.2.1]
theorem Rel.vl {S : CS} {M : MSt} (h : Rel S M) {i : Nat} (hi : i < 12) : S.2.2.2.2.1 i = wC (M.2.1 i) (M.1 i).toNatClampNeg := h.2.2.2.2.2.1 i hi
theorem Rel.d24 {S : CS} {M : MSt} (h : Rel S M) {i : Nat} (hi : i < 12) : (M.1 i).toNatClampNeg ≤ 24 := by
  obtain ⟨k, hk, e⟩ := h.hd i hi
  rw [e, nI_clamp (by omega)]; exact hk
theorem Rel.vw {S : CS} {M : MSt} (h : Rel S M) {i : Nat} (hi : i < 12) : (wO M i).toInt = 2 * (S.2.2.2.2.1 i).toInt := by
  rw [h.vl hi]; exact wCM _ (h.d24 hi)
theorem Rel.vb {S : CS} {M : MSt} (h : Rel S M) {i : Nat} (hi : i < 12) : -201326592 ≤ (S.2.2.2.2.1 i).toInt ∧ (S.2.2.2.2.1 i).toInt ≤ 201326592 := by
  rw [h.vl hi]; exact wC_bd _ (h.d24 hi)
theorem reg_lt {s : Int32} (h : isReg s = true) : s.toNatClampNeg < 12 := vp_lt (isReg_in h)
theorem eq_at {S : CS} {M : MSt} (hR : Rel S M) (a1 a2 : Int32) : cAt S a1 a2 = mAt M a1 a2 := by
  unfold cAt mAt
  rw [hR.dy, hR.sg]
  cases isReg a1 with
  | false => rfl
  | true =>
    rw [cond_true, cond_true]
    by_cases h1 : -1 ≤ a2
    · rw [if_pos h1, if_pos h1]
      by_cases h2 : a2 = -1
      · rw [if_pos h2, if_neg (by rw [h2]; decide)]
      · have h3 : 0 ≤ a2 := by
          rw [Int32.le_iff_toInt_le] at h1 ⊢
          have e1 : (-1 : Int32).toInt = -1 := rfl
          have e0 : (0 : Int32).toInt = 0 := rfl
          have h4 : a2.toInt ≠ -1 := fun q => h2 (Int32.toInt_inj.mp q)
          omega
        rw [if_neg h2, if_pos h3]
        by_cases h5 : a2 < dyM M a1
        · rw [if_pos h5, if_neg (Int32.not_le.mpr h5)]
        · rw [if_neg h5, if_pos (Int32.not_lt.mp h5)]
    · rw [if_neg h1, if_neg h1]
theorem eq_against {S : CS} {M : MSt} (hR : Rel S M) (a1 a2 : Int32) : cAgn S a1 a2 = mAgn M a1 a2 := by
  unfold cAgn mAgn
  cases h1 : isReg a1 with
  | false => rfl
  | true =>
    cases h2 : isReg a2 with
    | false => rfl
    | true =>
      rw [cond_true, cond_true, cond_true, cond_true]
      have e1 := hR.vw (reg_lt h1)
      have e2 := hR.vw (reg_lt h2)
      have b1 := hR.vb (reg_lt h1)
      have b2 := hR.vb (reg_lt h2)
      show sgnO (S.2.2.2.2.1 a1.toNatClampNeg - S.2.2.2.2.1 a2.toNatClampNeg) = cmpL (wO M a1.toNatClampNeg) (wO M a2.toNatClampNeg)
      generalize S.2.2.2.2.1 a1.toNatClampNeg = x at e1 b1 ⊢
      generalize S.2.2.2.2.1 a2.toNatClampNeg = y at e2 b2 ⊢
      generalize wO M a1.toNatClampNeg = u at e1 ⊢
      generalize wO M a2.toNatClampNeg = v at e2 ⊢
      have ed : (x - y).toInt = x.toInt - y.toInt := by rw [Int64.toInt_sub, Int.bmod_def]; omega
      have e0 : (0 : Int64).toInt = 0 := rfl
      unfold sgnO cmpL
      by_cases q1 : x - y = 0
      · have q2 : x.toInt = y.toInt := by have := congrArg Int64.toInt q1; rw [ed, e0] at this; omega
        rw [if_pos q1, if_pos (by rw [Int64.le_iff_toInt_le]; omega), decide_eq_false (by rw [Int64.lt_iff_toInt_lt]; omega)]; rfl
      · have q2 : x.toInt ≠ y.toInt := fun q => q1 (Int64.toInt_inj.mp (by rw [ed, e0]; omega))
        rw [if_neg q1]
        by_cases q3 : x - y < 0
        · rw [if_pos q3]
          rw [Int64.lt_iff_toInt_lt, ed, e0] at q3
          rw [if_neg (by rw [Int64.le_iff_toInt_le]; omega)]
        · rw [if_neg q3]
          rw [Int64.lt_iff_toInt_lt, ed, e0] at q3
          rw [if_pos (by rw [Int64.le_iff_toInt_le]; omega), decide_eq_true (by rw [Int64.lt_iff_toInt_lt]; omega)]; rfl
theorem eq_pair {S : CS} {M : MSt} (hR : Rel S M) (a1 : Int32) : cPair S a1 = mPair M a1 := by
  unfold cPair mPair
  rw [hR.2.2.1, hR.2.2.2.1]
  have e0 : (0 : Int32).toInt = 0 := rfl
  have e1 : (1 : Int32).toInt = 1 := rfl
  by_cases h0 : a1 = 0
  · subst h0; rfl
  · by_cases h1 : a1 = 1
    · subst h1; rfl
    · have q0 : a1.toInt ≠ 0 := fun q => h0 (Int32.toInt_inj.mp q)
      have q1 : a1.toInt ≠ 1 := fun q => h1 (Int32.toInt_inj.mp q)
      by_cases h2 : a1 < 0
      · rw [if_pos h2, if_neg h0, if_neg h1]
      · rw [if_neg h2, if_neg (show ¬ a1 ≤ 1 by rw [Int32.le_iff_toInt_le]; rw [Int32.lt_iff_toInt_lt] at h2; omega), if_neg h0, if_neg h1]
