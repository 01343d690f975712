theorem odd_lt {m1 m2 : Int} {a c : Nat} (h1 : m1 % 2 = 1) (e : m1 * 2 ^ a = m2 * 2 ^ (a + (c + 1))) : False := by
  have p := pw_pos a
  have e2 : m1 * 2 ^ a = (m2 * 2 ^ c * 2) * 2 ^ a := by
    rw [e, Nat.add_comm a, Int.pow_add, Int.pow_succ, ← Int.mul_assoc, ← Int.mul_assoc]
  have e3 : m1 = m2 * 2 ^ c * 2 := Int.eq_of_mul_eq_mul_right (by omega) e2
  omega
theorem odd_u {m1 m2 : Int} {a b : Nat} (h1 : m1 % 2 = 1) (h2 : m2 % 2 = 1) (e : m1 * 2 ^ a = m2 * 2 ^ b) : a = b ∧ m1 = m2 := by
  rcases Nat.lt_trichotomy a b with q | q | q
  · obtain ⟨c, rfl⟩ : ∃ c, b = a + (c + 1) := ⟨b - a - 1, by omega⟩
    exact (odd_lt h1 e).elim
  · subst q
    have p := pw_pos a
    exact ⟨rfl, Int.eq_of_mul_eq_mul_right (by omega) e⟩
  · obtain ⟨c, rfl⟩ : ∃ c, a = b + (c + 1) := ⟨a - b - 1, by omega⟩
    exact (odd_lt h2 e.symm).elim
theorem sz_spec : ∀ (f : Nat) (s : Int64) (j : Nat), 0 < s.toInt → s.toInt < 2 ^ f → ∃ v : Nat, v < f ∧ (szL f s j).2 = j + v ∧ s.toInt = (szL f s j).1.toInt * 2 ^ v ∧ (szL f s j).1.toInt % 2 = 1
  | 0, s, j, h0, h1 => by
    rw [Int.pow_zero] at h1; omega
  | f + 1, s, j, h0, h1 => by
    rw [szL]
    by_cases h : s - s / 2 * 2 = 0
    · rw [if_pos h]
      obtain ⟨b1, b2⟩ := sz_h h0 h1 h
      obtain ⟨v, v0, v1, v2, v3⟩ := sz_spec f (s / 2) (j + 1) b1 b2
      rw [ev2 (by omega)] at h
      refine ⟨v + 1, by omega, by omega, ?_, v3⟩
      rw [Int.pow_succ, ← Int.mul_assoc, ← v2, tdiv2 (by omega)]
      omega
    · rw [if_neg h]
      rw [ev2 (by omega)] at h
      exact ⟨0, by omega, rfl, by rw [Int.pow_zero, Int.mul_one], by show s.toInt % 2 = 1; omega⟩
theorem neg_i {f : Int64} (h : -9223372036854775808 < f.toInt) : (-f).toInt = -f.toInt := by
  have := Int64.toInt_lt f
  rw [Int64.toInt_neg, Int.bmod_def]
  omega
theorem absD_i {a : Int64} (h : -9223372036854775808 < a.toInt) : (0 ≤ a.toInt ∧ (absD a).toInt = a.toInt) ∨ (a.toInt < 0 ∧ (absD a).toInt = -a.toInt) := by
  have e0 : (0 : Int64).toInt = 0 := rfl
  unfold absD
  by_cases q : 0 ≤ a
  · rw [if_pos q]
    rw [Int64.le_iff_toInt_le, e0] at q
    exact Or.inl ⟨q, rfl⟩
  · rw [if_neg q, neg_i h]
    rw [Int64.le_iff_toInt_le, e0] at q
    exact Or.inr ⟨by omega, rfl⟩
theorem absL_i {a : Int64} (h : -9223372036854775808 < a.toInt) : (0 < a.toInt ∧ (absL a).toInt = a.toInt) ∨ (a.toInt ≤ 0 ∧ (absL a).toInt = -a.toInt) := by
  have e0 : (0 : Int64).toInt = 0 := rfl
  unfold absL
  by_cases q : 0 < a
  · rw [if_pos q]
    rw [Int64.lt_iff_toInt_lt, e0] at q
    exact Or.inl ⟨q, rfl⟩
  · rw [if_neg q, neg_i h]
    rw [Int64.lt_iff_toInt_lt, e0] at q
    exact Or.inr ⟨by omega, rfl⟩
theorem p2_iff {x : Int64} {m : Int} {K : Nat} (hm : m % 2 = 1) (h0 : 0 < x.toInt) (e : x.toInt = m * 2 ^ K) : bcL x = 1 ↔ m = 1 := by
  have ht : x.toInt = if 2 * x.toBitVec.toNat < 2 ^ 64 then (x.toBitVec.toNat : Int) else (x.toBitVec.toNat : Int) - (2 ^ 64 : Nat) := BitVec.toInt_eq_toNat_cond x.toBitVec
  have hlt := x.toBitVec.isLt
  have hc : 2 * x.toBitVec.toNat < 2 ^ 64 := by
    rcases Nat.lt_or_ge (2 * x.toBitVec.toNat) (2 ^ 64) with q | q
    · exact q
    · rw [if_neg (by omega)] at ht
      omega
  rw [if_pos hc] at ht
  constructor
  · intro h
    obtain ⟨k, hk⟩ := bc_1 h
    have e2 : m * 2 ^ K = 1 * 2 ^ k := by
      rw [← e, ht, hk, Int.one_mul, Int.natCast_pow]; rfl
    exact (odd_u hm (by decide) e2).2
  · intro h
    rw [h, Int.one_mul] at e
    have eN : x.toBitVec.toNat = 2 ^ K := by
      have : (x.toBitVec.toNat : Int) = ((2 ^ K : Nat) : Int) := by
        rw [← ht, e, Int.natCast_pow]; rfl
      exact Int.ofNat_inj.mp this
    have hK : K < 63 := by
      rcases Nat.lt_or_ge K 63 with q | q
      · exact q
      · have : 2 ^ 63 ≤ 2 ^ K := Nat.pow_le_pow_right (by decide) q
        omega
    have ex : x = Int64.ofNat (2 ^ K) := by
      apply Int64.toBitVec_inj.mp
      apply BitVec.eq_of_toNat_eq
      show x.toBitVec.toNat = (BitVec.ofNat 64 (2 ^ K)).toNat
      rw [BitVec.toNat_ofNat, Nat.mod_eq_of_lt (by omega), eN]
    rw [ex]
    exact bc_p ⟨K, hK⟩
theorem dv_y {f a : Int64} {b : Int32} (h : PF f a b) (h0 : ¬ f = 0) : (szL 31 (absD a) 0).2 < 31 ∧ halv f = nI ((szL 31 (absD a) 0).2 + (20 - b.toNatClampNeg)) ∧ isP2 f = decide ((szL 31 (absD a) 0).1 = 1) ∧ (0 ≤ f ↔ 0 ≤ a) := by
  have bd := h.fa.bd
  have hz := h.zero
  obtain ⟨_, h1, h2, h3, h4, h5⟩ := h.get
  have e0 : (0 : Int64).toInt = 0 := rfl
  have ha : ¬ a = 0 := fun q => h0 (hz.mpr q)
  have hi : a.toInt ≠ 0 := fun q => ha (Int64.toInt_inj.mp q)
  have hb : 0 < (absD a).toInt ∧ (absD a).toInt < 2 ^ 31 := sz_b ha h2 h3
  obtain ⟨v, v0, v1, v2, v3⟩ := sz_spec 31 (absD a) 0 hb.1 hb.2
  rw [Nat.zero_add] at v1
  rw [v1]
  generalize (szL 31 (absD a) 0).1 = m at *
  have p := pw_pos (20 - b.toNatClampNeg)
  have eP : (absD a).toInt * 2 ^ (20 - b.toNatClampNeg) = m.toInt * 2 ^ (v + (20 - b.toNatClampNeg)) := by
    rw [v2, Int.pow_add, ← Int.mul_assoc]
  have hs : (0 < f.toInt ∧ 0 < a.toInt ∧ f.toInt = m.toInt * 2 ^ (v + (20 - b.toNatClampNeg)) ∧ (absL f).toInt = m.toInt * 2 ^ (v + (20 - b.toNatClampNeg))) ∨ (f.toInt < 0 ∧ a.toInt < 0 ∧ f.toInt = -m.toInt * 2 ^ (v + (20 - b.toNatClampNeg)) ∧ (absL f).toInt = m.toInt * 2 ^ (v + (20 - b.toNatClampNeg))) := by
    rcases absD_i (a := a) (by omega) with ⟨q1, q2⟩ | ⟨q1, q2⟩
    · have : 0 < a.toInt * 2 ^ (20 - b.toNatClampNeg) := Int.mul_pos (by omega) p
      rw [← h5] at this
      rw [q2, ← h5] at eP
      rcases absL_i (a := f) (by omega) with ⟨r1, r2⟩ | ⟨r1, r2⟩
      · exact Or.inl ⟨this, by omega, eP, by rw [r2, eP]⟩
      · omega
    · have : a.toInt * 2 ^ (20 - b.toNatClampNeg) < 0 := Int.mul_neg_of_neg_of_pos (by omega) p
      rw [← h5] at this
      rw [q2, Int.neg_mul, ← h5] at eP
      rcases absL_i (a := f) (by omega) with ⟨r1, r2⟩ | ⟨r1, r2⟩
      · omega
      · exact Or.inr ⟨this, by omega, by rw [Int.neg_mul, ← eP, Int.neg_neg], by rw [r2, eP]⟩
  refine ⟨v0, ?_, ?_, ?_⟩
  · obtain ⟨k, k1, k2, m', m1, m2⟩ := halv_spec h0
    rw [k2]
    rcases hs with ⟨_, _, q, _⟩ | ⟨_, _, q, _⟩
    · rw [m2] at q
      rw [(odd_u m1 v3 q).1]
    · rw [m2] at q
      rw [(odd_u m1 (by omega) q).1]
  · unfold isP2
    have hp : bcL (absL f) = 1 ↔ m.toInt = 1 := by
      rcases hs with ⟨q1, q2, q3, q4⟩ | ⟨q1, q2, q3, q4⟩
      · exact p2_iff v3 (by rw [q4, ← q3]; exact q1) q4
      · exact p2_iff v3 (by rw [q4]; rw [Int.neg_mul] at q3; omega) q4
    have hq : m.toInt = 1 ↔ m = 1 := ⟨fun q => Int64.toInt_inj.mp q, fun q => by rw [q]; rfl⟩
    exact decide_eq_decide.mpr (hp.trans hq)
  · rw [Int64.le_iff_toInt_le, Int64.le_iff_toInt_le, e0]
    rcases hs with ⟨q1, q2, _, _⟩ | ⟨q1, q2, _, _⟩
    · omega
    · omega
theorem zz57g : True := trivial
