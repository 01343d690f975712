theorem low_and {v q : Nat} (hv : v < 64) (hq : q < 2 ^ (63 - v)) : (2 ^ v * (2 * q + 1)) &&& (2 ^ v * (2 * (2 ^ (63 - v) - (q + 1)) + 1)) = 2 ^ v := by
  apply Nat.eq_of_testBit_eq
  intro i
  rw [Nat.testBit_and, Nat.testBit_two_pow_mul, Nat.testBit_two_pow_mul, Nat.testBit_two_pow]
  by_cases h : v ≤ i
  · obtain ⟨j, rfl⟩ := Nat.exists_eq_add_of_le h
    rw [Nat.add_sub_cancel_left]
    cases j with
    | zero =>
      rw [Nat.testBit_zero, Nat.testBit_zero]
      simp
    | succ j =>
      rw [Nat.testBit_succ, Nat.testBit_succ, show (2 * q + 1) / 2 = q from by omega, show (2 * (2 ^ (63 - v) - (q + 1)) + 1) / 2 = 2 ^ (63 - v) - (q + 1) from by omega, Nat.testBit_two_pow_sub_succ hq]
      have e : ¬ v = v + (j + 1) := by omega
      cases q.testBit j <;> simp [e]
  · have e : ¬ v = i := by omega
    simp [h, e]
theorem odd_part : ∀ n : Nat, 0 < n → ∃ v q : Nat, n = 2 ^ v * (2 * q + 1) := by
  intro n
  induction n using Nat.strongRecOn with
  | _ n ih =>
    intro hn
    by_cases h : n % 2 = 1
    · exact ⟨0, n / 2, by omega⟩
    · obtain ⟨v, q, e⟩ := ih (n / 2) (by omega) (by omega)
      refine ⟨v + 1, q, ?_⟩
      rw [Nat.pow_succ, Nat.mul_assoc, Nat.mul_left_comm, ← e]
      omega
theorem bcL_low : ∀ v : Fin 64, bcL (Int64.ofNat (2 ^ v.val) - 1) = nI v.val := by decide +kernel
theorem halv0 : halv 0 = nI 64 := by decide +kernel
theorem halv_spec {x : Int64} (hx : ¬ x = 0) : ∃ h : Nat, h < 64 ∧ halv x = nI h ∧ ∃ m : Int, m % 2 = 1 ∧ x.toInt = m * 2 ^ h := by
  have hlt := x.toBitVec.isLt
  have h0 : 0 < x.toBitVec.toNat := by
    rcases Nat.eq_zero_or_pos x.toBitVec.toNat with q | q
    · exact absurd (Int64.toBitVec_inj.mp (BitVec.eq_of_toNat_eq q)) hx
    · exact q
  obtain ⟨v, q, e⟩ := odd_part _ h0
  have hv : v < 64 := by
    rcases Nat.lt_or_ge v 64 with z | z
    · exact z
    · have : 2 ^ 64 ≤ 2 ^ v := Nat.pow_le_pow_right (by decide) z
      have h2 : 2 ^ v * 1 ≤ 2 ^ v * (2 * q + 1) := Nat.mul_le_mul_left _ (by omega)
      omega
  have e64 : (2 : Nat) ^ 64 = 2 ^ v * (2 * 2 ^ (63 - v)) := by
    rw [← Nat.pow_succ', ← Nat.pow_add, show v + (63 - v).succ = 64 from by omega]
  have hq : q < 2 ^ (63 - v) := by
    rw [e, e64] at hlt
    have := Nat.lt_of_mul_lt_mul_left hlt
    omega
  refine ⟨v, hv, ?_, ?_⟩
  · have ea : x &&& -x = Int64.ofNat (2 ^ v) := by
      apply Int64.toBitVec_inj.mp
      apply BitVec.eq_of_toNat_eq
      rw [Int64.toBitVec_and, Int64.toBitVec_neg, BitVec.toNat_and, BitVec.toNat_neg, Nat.mod_eq_of_lt (by omega)]
      have e2 : 2 ^ 64 - x.toBitVec.toNat = 2 ^ v * (2 * (2 ^ (63 - v) - (q + 1)) + 1) := by
        rw [e, e64, ← Nat.mul_sub]
        congr 1
        omega
      rw [e2, e, low_and hv hq]
      have hp : (2 : Nat) ^ v < 2 ^ 64 := Nat.pow_lt_pow_right (by decide) hv
      show 2 ^ v = (BitVec.ofNat 64 (2 ^ v)).toNat
      rw [BitVec.toNat_ofNat, Nat.mod_eq_of_lt hp]
    unfold halv
    rw [ea]
    exact bcL_low ⟨v, hv⟩
  · have ht : x.toInt = if 2 * x.toBitVec.toNat < 2 ^ 64 then (x.toBitVec.toNat : Int) else (x.toBitVec.toNat : Int) - (2 ^ 64 : Nat) := BitVec.toInt_eq_toNat_cond x.toBitVec
    have en : (x.toBitVec.toNat : Int) = (2 * (q : Int) + 1) * 2 ^ v := by
      rw [e, Int.natCast_mul, Int.mul_comm, Int.natCast_pow]; simp
    by_cases hc : 2 * x.toBitVec.toNat < 2 ^ 64
    · rw [if_pos hc] at ht
      exact ⟨2 * q + 1, by omega, by rw [ht, en]⟩
    · rw [if_neg hc] at ht
      refine ⟨2 * q + 1 - 2 * (2 : Int) ^ (63 - v), by omega, ?_⟩
      have e3 : ((2 ^ 64 : Nat) : Int) = 2 * (2 : Int) ^ (63 - v) * 2 ^ v := by
        rw [e64, Int.natCast_mul, Int.mul_comm, Int.natCast_pow, Int.natCast_mul, Int.natCast_pow]; simp
      rw [ht, en, e3, ← Int.sub_mul]
theorem shrN (x : Int64) {k : Nat} (hk : k < 64) : (shrL x (nI k)).toInt = x.toInt / 2 ^ k := by
  have es : ∀ k : Fin 64, (((nI k.val).toInt64 &&& 63).toBitVec.smod 64).toNat = k.val := by decide +kernel
  have e1 := es ⟨k, hk⟩
  unfold shrL
  show (x >>> ((nI k).toInt64 &&& 63)).toBitVec.toInt = _
  rw [Int64.toBitVec_shiftRight, BitVec.sshiftRight', e1, BitVec.toInt_sshiftRight, Int.shiftRight_eq_div_pow]
  simp
/-- the least form, as both have it -/
theorem lb_spec (x : Int64) {k : Nat} (hk : k < 64) : lBel x (nI k) = nI (rdM k x).2 ∧ shrL x (nI k - lBel x (nI k)) = (rdM k x).1 := by
  have key : ∃ h : Nat, h ≤ 64 ∧ halv x = nI h ∧ (x.toInt = 0 ∧ h = 64 ∨ ∃ m : Int, m % 2 = 1 ∧ x.toInt = m * 2 ^ h) := by
    by_cases hx : x = 0
    · subst hx; exact ⟨64, Nat.le_refl _, halv0, Or.inl ⟨rfl, rfl⟩⟩
    · obtain ⟨h, h1, h2, h3⟩ := halv_spec hx
      exact ⟨h, by omega, h2, Or.inr h3⟩
  obtain ⟨h, hh, eh, hm⟩ := key
  have el : lBel x (nI k) = nI (k - h) := by
    unfold lBel maxI
    rw [eh]
    have es : (nI k - nI h).toInt = (k : Int) - h := by rw [Int32.toInt_sub, nI_toInt (by omega), nI_toInt (by omega), Int.bmod_def]; omega
    have e0 : (0 : Int32).toInt = 0 := rfl
    rcases Nat.lt_or_ge h k with z | z
    · rw [if_pos (by rw [Int32.lt_iff_toInt_lt, es, e0]; omega), pk_sub (by omega)]
    · rw [if_neg (by rw [Int32.lt_iff_toInt_lt, es, e0]; omega), show k - h = 0 from by omega]; rfl
  rw [el, pk_sub (by omega)]
  have ex : x.toInt = (x.toInt / 2 ^ (k - (k - h))) * 2 ^ (k - (k - h)) ∧ (k - h = 0 ∨ (x.toInt / 2 ^ (k - (k - h))) % 2 = 1) := by
    have p := pw_pos (k - (k - h))
    rcases hm with ⟨z, z2⟩ | ⟨m, m1, m2⟩
    · rw [z]; exact ⟨by rw [Int.zero_ediv, Int.zero_mul], Or.inl (by omega)⟩
    · rcases Nat.lt_or_ge h k with z | z
      · rw [show k - (k - h) = h from by omega, m2, Int.mul_ediv_cancel _ (by have := pw_pos h; omega)]
        exact ⟨rfl, Or.inr m1⟩
      · refine ⟨?_, Or.inl (by omega)⟩
        rw [show k - (k - h) = k from by omega, m2, show h = (h - k) + k from by omega, Int.pow_add, ← Int.mul_assoc, Int.mul_ediv_cancel _ (by have := pw_pos k; omega)]
  obtain ⟨u1, u2⟩ := rd_of (k := k) (a := x) (d := k - h) (by omega) ex.2 ex.1
  refine ⟨by rw [u2], ?_⟩
  apply Int64.toInt_inj.mp
  rw [shrN _ (by omega), u1]
theorem eq_value {S : CS} {M : MSt} (hR : Rel S M) (a1 a2 : Int32) : cVal S a1 a2 = mVal M a1 a2 := by
  unfold cVal mVal
  rw [inL_gen a2 0 1 (a := 0) (b := 1) rfl rfl]
  cases h1 : isReg a1 with
  | false => rw [cond_false, cond_false]
  | true =>
    rw [cond_true, cond_true]
    have e3 : (wO M a1.toNatClampNeg).toInt = 2 * (vlC S a1).toInt := hR.vw (reg_lt h1)
    have er : rdM 24 (wO M a1.toNatClampNeg) = rdM 23 (vlC S a1) := by
      have hev := (evg (wO M a1.toNatClampNeg)).mpr (by omega)
      rw [rdM, if_pos hev]
      have := dvg (a := wO M a1.toNatClampNeg) (by omega)
      rw [show wO M a1.toNatClampNeg / 2 = vlC S a1 from Int64.toInt_inj.mp (by omega)]
    obtain ⟨l1, l2⟩ := lb_spec (vlC S a1) (k := 23) (by decide)
    have l1b : lBel (vlC S a1) 23 = nI (rdM 23 (vlC S a1)).2 := l1
    have l2b : lAbo (vlC S a1) 23 = (rdM 23 (vlC S a1)).1.toInt32 := congrArg Int64.toInt32 l2
    by_cases h2 : a2 < 0
    · rw [if_pos h2, decide_eq_true h2]; rfl
    · rw [if_neg h2, decide_eq_false h2]
      by_cases h3 : a2 ≤ 1
      · rw [if_pos h3, decide_eq_false (Int32.not_lt.mpr h3), show (!false && !false) = true from rfl, cond_true, er, l1b, l2b]
      · rw [if_neg h3, decide_eq_true (Int32.not_le.mp h3)]; rfl
