theorem td2 (z : Int) : (0 ≤ z ∧ z.tdiv 2 = z / 2) ∨ (z < 0 ∧ z.tdiv 2 = -((-z) / 2)) := by
  by_cases h : z < 0
  · refine Or.inr ⟨h, ?_⟩
    have e := Int.neg_tdiv (-z) 2
    rw [Int.neg_neg] at e
    rw [e, Int.tdiv_eq_ediv_of_nonneg (by omega)]
  · exact Or.inl ⟨by omega, Int.tdiv_eq_ediv_of_nonneg (by omega)⟩
theorem tdv (a : Int64) : (a / 2).toInt = a.toInt.tdiv 2 := by
  rw [Int64.toInt_div, show (2 : Int64).toInt = 2 from rfl, Int.bmod_def]
  have h1 := Int64.toInt_lt a
  have h2 := Int64.le_toInt a
  have h3 := td2 a.toInt
  omega
theorem evg (a : Int64) : a - a / 2 * 2 = 0 ↔ a.toInt % 2 = 0 := by
  have h1 := Int64.toInt_lt a
  have h2 := Int64.le_toInt a
  have h3 := td2 a.toInt
  have e : (a - a / 2 * 2).toInt = a.toInt - a.toInt.tdiv 2 * 2 := by
    rw [Int64.toInt_sub, Int64.toInt_mul, tdv, show (2 : Int64).toInt = 2 from rfl, Int.bmod_def, Int.bmod_def]
    omega
  rw [← Int64.toInt_inj, e, show (0 : Int64).toInt = 0 from rfl]
  omega
theorem dvg {a : Int64} (h : a.toInt % 2 = 0) : a.toInt = (a / 2).toInt * 2 := by
  rw [tdv]; have h3 := td2 a.toInt; omega
theorem rd_spec : ∀ (k : Nat) (a : Int64), (rdM k a).2 ≤ k ∧ a.toInt = (rdM k a).1.toInt * 2 ^ (k - (rdM k a).2) ∧ ((rdM k a).2 = 0 ∨ (rdM k a).1.toInt % 2 = 1)
  | 0, a => ⟨Nat.le_refl _, by show a.toInt = a.toInt * 2 ^ (0 - 0); rw [Nat.sub_self, Int.pow_zero, Int.mul_one], Or.inl rfl⟩
  | k + 1, a => by
    rw [rdM]
    by_cases h : a - a / 2 * 2 = 0
    · rw [if_pos h]
      obtain ⟨h1, h2, h3⟩ := rd_spec k (a / 2)
      refine ⟨Nat.le_succ_of_le h1, ?_, h3⟩
      rw [dvg ((evg a).mp h), h2, show k + 1 - (rdM k (a / 2)).2 = (k - (rdM k (a / 2)).2) + 1 from by omega, Int.pow_succ, Int.mul_assoc]
    · rw [if_neg h]
      refine ⟨Nat.le_refl _, by show a.toInt = a.toInt * 2 ^ (k + 1 - (k + 1)); rw [Nat.sub_self, Int.pow_zero, Int.mul_one], Or.inr ?_⟩
      have := (not_congr (evg a)).mp h
      show a.toInt % 2 = 1
      omega
theorem rd_uniq {u u2 : Int} {d d2 k : Nat} (h : d ≤ k) (h2 : d2 ≤ k) (ho : d = 0 ∨ u % 2 = 1) (ho2 : d2 = 0 ∨ u2 % 2 = 1) (he : u * 2 ^ (k - d) = u2 * 2 ^ (k - d2)) : u = u2 ∧ d = d2 := by
  have key : ∀ {u u2 : Int} {d d2 : Nat}, d ≤ d2 → d2 ≤ k → (d2 = 0 ∨ u2 % 2 = 1) → u * 2 ^ (k - d) = u2 * 2 ^ (k - d2) → u = u2 ∧ d = d2 := by
    intro u u2 d d2 h1 h2 ho he
    rw [show k - d = (d2 - d) + (k - d2) from by omega, Int.pow_add, ← Int.mul_assoc] at he
    have he2 : u * 2 ^ (d2 - d) = u2 := Int.eq_of_mul_eq_mul_right (by have := pw_pos (k - d2); omega) he
    rcases Nat.lt_or_ge d d2 with q | q
    · rcases ho with o | o
      · omega
      · rw [show d2 - d = (d2 - d - 1) + 1 from by omega, Int.pow_succ, ← Int.mul_assoc] at he2
        omega
    · have e : d = d2 := by omega
      subst e
      rw [Nat.sub_self, Int.pow_zero, Int.mul_one] at he2
      exact ⟨he2, rfl⟩
  rcases Nat.le_total d d2 with q | q
  · exact key q h2 ho2 he
  · have := key q h ho he.symm
    exact ⟨this.1.symm, this.2.symm⟩
/-! the search of both -/
theorem n24i {n : Nat} (hn : n ≤ 24) : nI n = 24 ↔ n = 24 := by
  constructor
  · intro h
    have := congrArg Int32.toInt h
    rw [nI_toInt (by omega), show (24 : Int32).toInt = 24 from rfl] at this
    omega
  · intro h; rw [h]; rfl
theorem hs_eq {w v : Int64} (hv : v.toInt = 2 * w.toInt) : ∀ (f n : Nat) (x : Int32), n + f = 25 → (hsL w w f n x = none → (hsM v f n x).1 = false) ∧ ∀ q, hsL w w f n x = some q → hsM v f n x = (true, q.1, q.2) ∧ q.1 ≤ 24
  | 0, n, x, _ => ⟨fun _ => rfl, fun q h => by cases h⟩
  | f + 1, n, x, h => by
    have e1 := wCM x (n := n) (by omega)
    rw [hsL, hsM]
    by_cases h1 : w ≤ wC x n
    · rw [if_pos h1]
      rw [Int64.le_iff_toInt_le] at h1
      by_cases h2 : w < wC x n
      · rw [if_pos h2]
        rw [Int64.lt_iff_toInt_lt] at h2
        rw [if_neg (fun q => by have := congrArg Int64.toInt q; omega)]
        by_cases h3 : n = 24
        · rw [if_pos ((n24i (by omega)).mpr h3)]
          obtain rfl : f = 0 := by omega
          exact ⟨fun _ => rfl, fun q h => by cases h⟩
        · rw [if_neg (fun q => h3 ((n24i (by omega)).mp q)), if_pos (by rw [Int64.le_iff_toInt_le]; omega)]
          exact hs_eq hv f (n + 1) x (by omega)
      · rw [if_neg h2]
        rw [Int64.lt_iff_toInt_lt] at h2
        rw [if_pos (Int64.toInt_inj.mp (by omega))]
        exact ⟨fun q => (by cases q), fun q hq => by cases hq; exact ⟨rfl, by omega⟩⟩
    · rw [if_neg h1]
      rw [Int64.le_iff_toInt_le] at h1
      rw [if_neg (fun q => by have := congrArg Int64.toInt q; omega)]
      by_cases h3 : n = 24
      · rw [if_pos ((n24i (by omega)).mpr h3)]
        obtain rfl : f = 0 := by omega
        exact ⟨fun _ => rfl, fun q h => by cases h⟩
      · rw [if_neg (fun q => h3 ((n24i (by omega)).mp q)), if_neg (by rw [Int64.le_iff_toInt_le]; omega)]
        exact hs_eq hv f (n + 1) _ (by omega)
theorem hs_far {w : Int64} (hw : w.toInt < -201326592 ∨ 201326592 < w.toInt) : ∀ (f n : Nat) (x : Int32), n + f = 25 → hsL w w f n x = none
  | 0, _, _, _ => rfl
  | f + 1, n, x, h => by
    have b := wC_bd x (n := n) (by omega)
    rw [hsL]
    by_cases h1 : w ≤ wC x n
    · rw [if_pos h1]
      rw [Int64.le_iff_toInt_le] at h1
      rw [if_pos (by rw [Int64.lt_iff_toInt_lt]; omega)]
      exact hs_far hw f (n + 1) x (by omega)
    · rw [if_neg h1]
      exact hs_far hw f (n + 1) _ (by omega)
theorem shl25 {k : Nat} (h : k ≤ 23) : (shlL 25 (nI k)).toInt = 25 * 2 ^ k := by
  have : ∀ k : Fin 24, (shlL 25 (nI k.val)).toInt = 25 * 2 ^ k.val := by decide +kernel
  exact this ⟨k, by omega⟩
theorem shr24 {k : Nat} (h : k ≤ 23) : (shrL 16777216 (nI k)).toInt = 2 ^ (24 - k) := by
  have : ∀ k : Fin 24, (shrL 16777216 (nI k.val)).toInt = 2 ^ (24 - k.val) := by decide +kernel
  exact this ⟨k, by omega⟩
/-- what holdValue and has do with one number: u by 2 to the d, which is w by 2 to the 23 -/
theorem HV_eq {S : CS} {M : MSt} (hR : Rel S M) {s : Int32} {w u : Int64} {d : Nat} (hd : d ≤ 23) (hw : w.toInt = u.toInt * 2 ^ (23 - d)) : (cHV S s w).1 = (mKH s (hasR M u d)).1 ∧ Rel (cHV S s w).2 (mKH s (hasR M u d)).2 := by
  unfold cHV cHS mKH hasR
  rw [if_neg (show ¬ (23 : Int32) < nI d from fun q => absurd (show nI 23 < nI d from q) (nI_nlt (by omega) (by omega)))]
  have p1 := pw_pos d
  have p2 := pw_pos (23 - d)
  have p3 : (2 : Int) ^ d * 2 ^ (23 - d) = 8388608 := by rw [← Int.pow_add, show d + (23 - d) = 23 from by omega]; decide
  by_cases h1 : shlL 25 (nI d) < u
  · rw [if_pos h1]
    rw [Int64.lt_iff_toInt_lt, shl25 hd] at h1
    have h2 : 25 * 2 ^ d * 2 ^ (23 - d) < u.toInt * 2 ^ (23 - d) := Int.mul_lt_mul_of_pos_right h1 p2
    rw [hs_far (Or.inr (by rw [hw]; rw [Int.mul_assoc, p3] at h2; omega)) 25 0 0 rfl]
    exact ⟨rfl, hR⟩
  · rw [if_neg h1]
    by_cases h3 : -(shlL 25 (nI d)) ≤ u
    · rw [if_pos h3]
      have e25 : (-(shlL 25 (nI d))).toInt = -(25 * 2 ^ d) := by
        have q : (2 : Int) ^ d ≤ 2 ^ 23 := pw_le hd
        have q2 : (2 : Int) ^ 23 = 8388608 := by decide
        rw [Int64.toInt_neg, shl25 hd, Int.bmod_def]; omega
      rw [Int64.le_iff_toInt_le, e25] at h3
      rw [Int64.lt_iff_toInt_lt, shl25 hd] at h1
      have b1 : u.toInt * 2 ^ (23 - d) ≤ 25 * 2 ^ d * 2 ^ (23 - d) := Int.mul_le_mul_of_nonneg_right (by omega) (by omega)
      have b2 : -(25 * 2 ^ d) * 2 ^ (23 - d) ≤ u.toInt * 2 ^ (23 - d) := Int.mul_le_mul_of_nonneg_right h3 (by omega)
      rw [Int.neg_mul, Int.mul_assoc, p3] at b2
      rw [Int.mul_assoc, p3] at b1
      have hv : (u * shrL 16777216 (nI d)).toInt = 2 * w.toInt := by
        rw [Int64.toInt_mul, shr24 hd, hw, show 24 - d = (23 - d) + 1 from by omega, Int.pow_succ, ← Int.mul_assoc, Int.bmod_def]
        omega
      obtain ⟨n1, n2⟩ := hs_eq hv 25 0 0 rfl
      unfold hasV
      cases hq : hsL w w 25 0 0 with
      | none =>
        rw [n1 hq]
        exact ⟨rfl, hR⟩
      | some q =>
        obtain ⟨n3, n4⟩ := n2 q hq
        rw [n3]
        exact ⟨rfl, Rel_hold hR n4 _ _ _ _ _⟩
    · rw [if_neg h3]
      have e25 : (-(shlL 25 (nI d))).toInt = -(25 * 2 ^ d) := by
        have q : (2 : Int) ^ d ≤ 2 ^ 23 := pw_le hd
        have q2 : (2 : Int) ^ 23 = 8388608 := by decide
        rw [Int64.toInt_neg, shl25 hd, Int.bmod_def]; omega
      rw [Int64.le_iff_toInt_le, e25] at h3
      have h2 : u.toInt * 2 ^ (23 - d) < -(25 * 2 ^ d) * 2 ^ (23 - d) := Int.mul_lt_mul_of_pos_right (by omega) p2
      rw [Int.neg_mul, Int.mul_assoc, p3] at h2
      rw [hs_far (Or.inl (by rw [hw]; omega)) 25 0 0 rfl]
      exact ⟨rfl, hR⟩
theorem rd_of {k : Nat} {a : Int64} {u : Int} {d : Nat} (h : d ≤ k) (ho : d = 0 ∨ u % 2 = 1) (he : a.toInt = u * 2 ^ (k - d)) : (rdM k a).1.toInt = u ∧ (rdM k a).2 = d := by
  obtain ⟨h1, h2, h3⟩ := rd_spec k a
  exact rd_uniq h1 h h3 ho (h2.symm.trans he)
theorem shlN (x : Int64) {k : Nat} (hk : k < 64) (h : -(2 ^ 63 : Int) ≤ x.toInt * 2 ^ k) (h2 : x.toInt * 2 ^ k < 2 ^ 63) : (shlL x (nI k)).toInt = x.toInt * 2 ^ k := by
  have es : ∀ k : Fin 64, ((nI k.val).toInt64 &&& 63).toBitVec.smod 64 = BitVec.ofNat 64 k.val := by decide +kernel
  have e1 := es ⟨k, hk⟩
  unfold shlL
  show (x <<< ((nI k).toInt64 &&& 63)).toBitVec.toInt = _
  rw [Int64.toBitVec_shiftLeft, e1, BitVec.shiftLeft_eq', BitVec.toNat_ofNat, Nat.mod_eq_of_lt (show k < 2 ^ 64 by omega), BitVec.toInt_shiftLeft]
  rw [Nat.shiftLeft_eq]
  have ht : x.toInt = Int.bmod ((x.toBitVec.toNat : Nat) : Int) (2 ^ 64) := BitVec.toInt_eq_toNat_bmod x.toBitVec
  have e2 : (((x.toBitVec.toNat * 2 ^ k : Nat) : Int)).bmod (2 ^ 64) = (x.toInt * 2 ^ k).bmod (2 ^ 64) := by
    rw [ht, Int.natCast_mul, Int.bmod_mul_bmod]; simp
  rw [e2, Int.bmod_def]
  omega
theorem isFr_eq (a k : Int32) : (bif inL a.toInt64 (-1000000000) 1000000000 then inL k.toInt64 0 20 else false) = isFr a k := by
  rw [inL_gen a (-1000000000) 1000000000 (a := -1000000000) (b := 1000000000) rfl rfl, inL_gen k 0 20 (a := 0) (b := 20) rfl rfl]
  unfold isFr
  cases decide (a < -1000000000) <;> cases decide (1000000000 < a) <;> rfl
theorem isFr_b {a k : Int32} (h : isFr a k = true) : -1000000000 ≤ a.toInt ∧ a.toInt ≤ 1000000000 ∧ ∃ j : Nat, j ≤ 20 ∧ k = nI j := by
  simp only [isFr, Bool.and_eq_true, Bool.not_eq_true', decide_eq_false_iff_not] at h
  obtain ⟨⟨⟨h1, h2⟩, h3⟩, h4⟩ := h
  rw [Int32.lt_iff_toInt_lt] at h1 h2
  have e1 : (-1000000000 : Int32).toInt = -1000000000 := rfl
  have e2 : (1000000000 : Int32).toInt = 1000000000 := rfl
  exact ⟨by omega, by omega, nI_of2 (M := 20) (n := 20) rfl h3 (Int32.not_lt.mp h4)⟩
theorem eq_number {S : CS} {M : MSt} (hR : Rel S M) (a1 a2 a3 : Int32) : (cNum S a1 a2 a3).1 = (mNum M a1 a2 a3).1 ∧ Rel (cNum S a1 a2 a3).2 (mNum M a1 a2 a3).2 := by
  unfold cNum mNum
  rw [← isFr_eq]
  cases isReg a1 with
  | false => exact ⟨rfl, hR⟩
  | true =>
    rw [cond_true, cond_true]
    cases h2 : inL a2.toInt64 (-1000000000) 1000000000 with
    | false => rw [cond_false, cond_false, cond_false]; exact ⟨rfl, hR⟩
    | true =>
      rw [cond_true, cond_true]
      cases h3 : inL a3.toInt64 0 20 with
      | false => rw [cond_false, cond_false]; exact ⟨rfl, hR⟩
      | true =>
        rw [cond_true, cond_true]
        have hf : isFr a2 a3 = true := by rw [← isFr_eq, h2, h3]; rfl
        obtain ⟨b1, b2, j, hj, e⟩ := isFr_b hf
        subst e
        rw [nI_clamp (by omega)]
        obtain ⟨r1, r2, r3⟩ := rd_spec j a2.toInt64
        unfold mHas
        refine HV_eq hR (d := (rdM j a2.toInt64).2) (by omega) ?_
        have e1 : a2.toInt64.toInt = a2.toInt := Int32.toInt_toInt64 a2
        have e2 : (23 - nI j : Int32) = nI (23 - j) := by rw [show (23 : Int32) = nI 23 from rfl, pk_sub (by omega)]
        have p0 := pw_pos (23 - j)
        have p1 : (2 : Int) ^ (23 - j) ≤ 2 ^ 23 := pw_le (by omega)
        have p2 : (2 : Int) ^ 23 = 8388608 := by decide
        have b3 : a2.toInt * 2 ^ (23 - j) ≤ 1000000000 * 2 ^ (23 - j) := Int.mul_le_mul_of_nonneg_right b2 (by omega)
        have b4 : -1000000000 * 2 ^ (23 - j) ≤ a2.toInt * 2 ^ (23 - j) := Int.mul_le_mul_of_nonneg_right b1 (by omega)
        have p63 : (2 : Int) ^ 63 = 9223372036854775808 := by decide
        rw [e2, shlN _ (by omega) (by rw [e1]; omega) (by rw [e1]; omega), r2, Int.mul_assoc, ← Int.pow_add, show j - (rdM j a2.toInt64).2 + (23 - j) = 23 - (rdM j a2.toInt64).2 from by omega]
