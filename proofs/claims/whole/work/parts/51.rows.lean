theorem upd_at {f : Nat → Int32} {k : Nat} {x : Int32} {j : Nat} : upd f k x j = if j = k then x else f j := rfl
theorem Rel_hold {S : CS} {M : MSt} (hR : Rel S M) {s : Int32} {k : Nat} (hk : k ≤ 24) (x fd fs : Int32) (pu : Int64) (pd : Int32) : Rel (cHold S s (nI k) x) (upd M.1 s.toNatClampNeg (nI k), upd M.2.1 s.toNatClampNeg x, M.2.2.1, M.2.2.2.1, M.2.2.2.2.1, M.2.2.2.2.2.1, fd, fs, pu, pd) := by
  obtain ⟨h1, h2, h3, h4, h5, h6, h7, h8, h9⟩ := hR
  refine ⟨?_, ?_, h3, h4, ?_, ?_, h7, h8, h9⟩
  · show upd S.2.2.1 _ _ = upd M.1 _ _; rw [h1]
  · show upd S.2.2.2.1 _ _ = upd M.2.1 _ _; rw [h2]
  · intro i hi
    show ∃ q : Nat, q ≤ 24 ∧ upd M.1 s.toNatClampNeg (nI k) i = nI q
    rw [upd_at]
    by_cases e : i = s.toNatClampNeg
    · rw [if_pos e]; exact ⟨k, hk, rfl⟩
    · rw [if_neg e]; exact h5 i hi
  · intro i hi
    show vp_updL S.2.2.2.2.1 s.toNatClampNeg (wC x (nI k).toNatClampNeg) i = wC (upd M.2.1 s.toNatClampNeg x i) (upd M.1 s.toNatClampNeg (nI k) i).toNatClampNeg
    rw [upd_at, upd_at]
    unfold vp_updL
    by_cases e : i = s.toNatClampNeg
    · rw [if_pos e, if_pos e, if_pos e]
    · rw [if_neg e, if_neg e, if_neg e]; exact h6 i hi
theorem Rel_scr {S : CS} {M : MSt} (hR : Rel S M) (fd fs : Int32) (pu : Int64) (pd : Int32) : Rel S (M.1, M.2.1, M.2.2.1, M.2.2.2.1, M.2.2.2.2.1, M.2.2.2.2.2.1, fd, fs, pu, pd) := hR
theorem eq_row {S : CS} {M : MSt} (hR : Rel S M) (a1 a2 a3 : Int32) : (cRow S a1 a2 a3).1 = (mRow M a1 a2 a3).1 ∧ Rel (cRow S a1 a2 a3).2 (mRow M a1 a2 a3).2 := by
  unfold cRow mRow
  rw [inL_gen a2 0 24 (a := 0) (b := 24) rfl rfl]
  cases isReg a1 with
  | false => exact ⟨rfl, hR⟩
  | true =>
    rw [cond_true, cond_true]
    by_cases h1 : a2 < 0
    · rw [if_pos h1, decide_eq_true h1]; exact ⟨rfl, hR⟩
    · rw [if_neg h1, decide_eq_false h1]
      by_cases h2 : 24 < a2
      · rw [if_pos h2, decide_eq_true h2]; exact ⟨rfl, hR⟩
      · rw [if_neg h2, decide_eq_false h2]
        obtain ⟨k, hk, e⟩ := nI_of2 (M := 24) (n := 24) rfl h1 (Int32.not_lt.mp h2)
        subst e
        rw [show (!false && !false) = true from rfl, cond_true]
        by_cases h3 : ushrI a3 (nI k) = 0
        · rw [if_pos h3, if_pos h3]
          exact ⟨rfl, Rel_hold hR hk _ _ _ _ _⟩
        · rw [if_neg h3, if_neg h3]; exact ⟨rfl, hR⟩
theorem bz_1 {b : Bool} : bz b = 1 - 0 ↔ (b == true) = true := by cases b <;> decide
theorem bz_2 {b : Bool} : bz b = 1 - 1 ↔ (b == false) = true := by cases b <;> decide
theorem in01 {d : Int32} (h0 : ¬ d < 0) (h1 : d ≤ 1) : d = 0 ∨ d = 1 := by
  obtain ⟨k, hk, e⟩ := nI_of2 (M := 1) (n := 1) rfl h0 h1
  match k, hk with
  | 0, _ => exact Or.inl e
  | 1, _ => exact Or.inr e
theorem sd_eq (x d : Int32) (h : d = 0 ∨ d = 1) : ∀ n, sdL x (decide (d = 0)) n = sdM x d n
  | 0 => rfl
  | n + 1 => by
    rw [sdL, sdM, sd_eq x d h n]
    rcases h with h | h
    · subst h
      by_cases q : bz (tb x (nI n)) = 1 - 0
      · rw [if_pos q, show decide ((0 : Int32) = 0) = true from rfl, bz_1.mp q, cond_true]
      · rw [if_neg q, show decide ((0 : Int32) = 0) = true from rfl, show (tb x (nI n) == true) = false from by cases hb : (tb x (nI n) == true); rfl; exact absurd (bz_1.mpr hb) q, cond_false]
    · subst h
      by_cases q : bz (tb x (nI n)) = 1 - 1
      · rw [if_pos q, show decide ((1 : Int32) = 0) = false from rfl, bz_2.mp q, cond_true]
      · rw [if_neg q, show decide ((1 : Int32) = 0) = false from rfl, show (tb x (nI n) == false) = false from by cases hb : (tb x (nI n) == false); rfl; exact absurd (bz_2.mpr hb) q, cond_false]
theorem sd_lt {x d : Int32} : ∀ {n k : Nat}, sdM x d n = some k → k < n
  | 0, _, h => by cases h
  | n + 1, k, h => by
    rw [sdM] at h
    by_cases q : bz (tb x (nI n)) = 1 - d
    · rw [if_pos q] at h; rw [← Option.some.inj h]; exact Nat.lt_succ_self n
    · rw [if_neg q] at h; exact Nat.lt_succ_of_lt (sd_lt h)
theorem eq_side {S : CS} {M : MSt} (hR : Rel S M) (a1 a2 a3 : Int32) : (cSide S a1 a2 a3).1 = (mSide M a1 a2 a3).1 ∧ Rel (cSide S a1 a2 a3).2 (mSide M a1 a2 a3).2 := by
  unfold cSide mSide
  rw [inL_gen a3 0 1 (a := 0) (b := 1) rfl rfl, hR.dy, hR.sg]
  cases isReg a1 with
  | false => exact ⟨rfl, hR⟩
  | true =>
    cases h2 : isReg a2 with
    | false => exact ⟨rfl, hR⟩
    | true =>
      rw [cond_true, cond_true, cond_true, cond_true]
      by_cases h3 : a3 < 0
      · rw [if_pos h3, decide_eq_true h3]; exact ⟨rfl, hR⟩
      · rw [if_neg h3, decide_eq_false h3]
        by_cases h4 : a3 ≤ 1
        · rw [if_pos h4, decide_eq_false (Int32.not_lt.mpr h4), show (!false && !false) = true from rfl, cond_true]
          rw [sd_eq _ _ (in01 h3 h4)]
          cases hs : sdM (sgM M a2) a3 (dyM M a2).toNatClampNeg with
          | none => exact ⟨rfl, hR⟩
          | some n =>
            have hn := sd_lt hs
            have hd : (dyM M a2).toNatClampNeg ≤ 24 := hR.d24 (reg_lt h2)
            exact ⟨rfl, Rel_hold hR (by omega) _ _ _ _ _⟩
        · rw [if_neg h4, decide_eq_true (Int32.not_le.mp h4)]; exact ⟨rfl, hR⟩
/-! counts -/
theorem shl1 {k : Nat} (h : k < 31) : (1 : Int32) <<< (nI k &&& 31) = nI (2 ^ k) := by
  rw [show nI k &&& 31 = nI k from by rw [pk_andN (by omega) 5 (by decide), Nat.mod_eq_of_lt (by omega)]]
  rw [show (1 : Int32) = nI 1 from rfl, pk_shlN (nI k) k (s_32 k (by omega)) (by rw [Nat.one_mul]; exact Nat.pow_lt_pow_right (by decide) (by omega)), Nat.one_mul]
theorem siz_eq {i d : Nat} (hi : i ≤ d) (hd : d ≤ 20) : (1 : Int32) <<< ((nI d - nI i) &&& 31) = 1 + sizM (nI i + 1) (nI d) := by
  unfold sizM
  rw [pk_sub hi]
  rcases Nat.lt_or_ge i d with h | h
  · rw [if_neg (by rw [nI_1]; exact nI_nlt (by omega) (by omega)), nI_1, pk_sub (by omega), nI_1, show d - (i + 1) + 1 = d - i from by omega]
    rw [Int32.add_comm, Int32.sub_add_cancel]
  · rw [if_pos (by rw [nI_1]; exact nI_lt (by omega) (by omega)), show d - i = 0 from by omega]; decide
theorem cl_eq {x : Int32} {d : Nat} (hd : d ≤ 20) : ∀ n, n ≤ d + 1 → clL x (nI d) n = lsL x (nI d) n
  | 0, _ => rfl
  | n + 1, h => by
    rw [clL, lsL, cl_eq hd n (by omega)]
    cases tb x (nI n) with
    | true => rw [cond_true, cond_true, siz_eq (by omega) hd]
    | false => rw [cond_false, cond_false, Int32.add_zero]
theorem CL_eq {S : CS} {M : MSt} (hR : Rel S M) {s d : Int32} (hs : isReg s = true) (hd : isLd d = true) : cCL S s d = mLs M s d := by
  obtain ⟨k, hk, e⟩ := HD.r hR.hd hs
  obtain ⟨q, hq, e2⟩ := isLd_k hd
  subst e2
  unfold cCL mLs
  rw [hR.dy, hR.sg, e, nI_clamp (by omega), nI_clamp (by omega), cl_eq hq _ (Nat.min_le_right _ _)]
  by_cases h : nI q < nI k
  · rw [if_pos h, if_pos h]
  · rw [if_neg h, if_neg h]
    have hkq : k ≤ q := by
      rcases Nat.lt_or_ge q k with z | z
      · exact absurd (nI_lt z (by omega)) h
      · exact z
    have h2 := siz_eq hkq hq
    show _ + lowB (nI q - nI k) = _ + sizM (nI k + 1) (nI q)
    congr 1
    unfold lowB
    rw [h2, Int32.add_comm, Int32.add_sub_cancel]
theorem eq_between {S : CS} {M : MSt} (hR : Rel S M) (a1 a2 a3 : Int32) : cBet S a1 a2 a3 = mBet M a1 a2 a3 := by
  unfold cBet mBet
  rw [show inL a3.toInt64 0 20 = isLd a3 from inL_gen a3 0 20 (a := 0) (b := 20) rfl rfl]
  cases h1 : isReg a1 with
  | false => rw [cond_false, cond_false]
  | true =>
    rw [cond_true, cond_true]
    cases h2 : isReg a2 with
    | false => rw [cond_false, cond_false]
    | true =>
      rw [cond_true, cond_true]
      cases h3 : isLd a3 with
      | false => rw [cond_false, cond_false]
      | true =>
        have e1 : (wO M a1.toNatClampNeg).toInt = 2 * (vlC S a1).toInt := hR.vw (reg_lt h1)
        have e2 : (wO M a2.toNatClampNeg).toInt = 2 * (vlC S a2).toInt := hR.vw (reg_lt h2)
        rw [cond_true, cond_true, CL_eq hR h1 h3, CL_eq hR h2 h3, hR.dy]
        by_cases h : vlC S a1 < vlC S a2
        · rw [if_pos h, if_pos (by rw [Int64.lt_iff_toInt_lt] at h ⊢; rw [e1, e2]; omega)]
        · rw [if_neg h, if_neg (by rw [Int64.lt_iff_toInt_lt] at h ⊢; rw [e1, e2]; omega)]
/-! the bits turned round -/
theorem isLd_eq (d : Int32) : inL d.toInt64 0 20 = isLd d := inL_gen d 0 20 (a := 0) (b := 20) rfl rfl
theorem bit1 (x : Int32) (p : Nat) : (x &&& 1).toBitVec.getLsbD p = (decide (p = 0) && x.toBitVec.getLsbD 0) := by
  rw [Int32.toBitVec_and, BitVec.getLsbD_and, show (1 : Int32).toBitVec = 1#32 from rfl, BitVec.getLsbD_one]
  by_cases h : p = 0
  · subst h; simp
  · simp [h]
theorem bit_shl (x : Int32) {k p : Nat} (hk : k < 32) : (x <<< (nI k &&& 31)).toBitVec.getLsbD p = (decide (p < 32) && (decide (k ≤ p) && x.toBitVec.getLsbD (p - k))) := by
  rw [show nI k &&& 31 = nI k from by rw [pk_andN (by omega) 5 (by decide), Nat.mod_eq_of_lt (by omega)]]
  rw [Int32.toBitVec_shiftLeft, BitVec.shiftLeft_eq', show ((nI k).toBitVec.smod 32).toNat = k from s_32 k hk, BitVec.getLsbD_shiftLeft]
  by_cases h : p < k
  · simp [h]; intro; omega
  · have h2 : k ≤ p := by omega
    simp [h, h2]
theorem bit_bz (b : Bool) (p : Nat) : (bz b).toBitVec.getLsbD p = (decide (p = 0) && b) := by
  cases b with
  | false => show (0#32).getLsbD p = _; simp
  | true =>
    show (1#32).getLsbD p = _
    rw [BitVec.getLsbD_one]; simp
theorem bit_ushr (x : Int32) {k : Nat} (hk : k < 32) (p : Nat) : (ushrI x (nI k)).toBitVec.getLsbD p = x.toBitVec.getLsbD (k + p) := by
  rw [ushr_bit, show (nI k).toBitVec.toNat % 32 = k from by rw [pk_tn (by omega)]; omega]
theorem tb_bit (x : Int32) {k : Nat} (hk : k < 32) : tb x (nI k) = x.toBitVec.getLsbD k := by
  have h := bit_bz (tb x (nI k)) 0
  have h2 : bz (tb x (nI k)) = ushrI x (nI k) &&& 1 := by rw [and1b]; rfl
  rw [h2, bit1, bit_ushr x hk] at h
  simpa using h.symm
theorem tr_bit (x : Int32) : ∀ n, n ≤ 20 → ∀ p, (trR x n).toBitVec.getLsbD p = (decide (p < n) && x.toBitVec.getLsbD (n - 1 - p))
  | 0, _, p => by show (0#32).getLsbD p = _; simp
  | n + 1, h, p => by
    have ih := tr_bit x n (by omega) (p - 1)
    rw [trR, Int32.toBitVec_or, BitVec.getLsbD_or, show ((1 : Int32) &&& 31) = nI 1 &&& 31 from rfl, bit_shl _ (by decide), ih, bit1, bit_ushr x (by omega)]
    by_cases h0 : p = 0
    · subst h0; simp
    · have e1 : n - 1 - (p - 1) = n + 1 - 1 - p := by omega
      by_cases h1 : p < n + 1
      · have h3 : p - 1 < n := by omega
        have h4 : 1 ≤ p := by omega
        have h5 : p < 32 := by omega
        simp [h0, h1, h3, h4, h5, e1]
      · have h3 : ¬ p - 1 < n := by omega
        simp [h0, h1, h3]
theorem br_bit (x : Int32) {n : Nat} (hn : n ≤ 20) : ∀ k, k ≤ n → ∀ p, (brM x (nI n) k).toBitVec.getLsbD p = (decide (p < k) && x.toBitVec.getLsbD (n - 1 - p))
  | 0, _, p => by show (0#32).getLsbD p = _; simp
  | k + 1, h, p => by
    have ih := br_bit x hn k (by omega) p
    have e : nI n - 1 - nI k = nI (n - 1 - k) := by rw [show (1 : Int32) = nI 1 from rfl, pk_sub (by omega), pk_sub (by omega)]
    rw [brM, Int32.toBitVec_or, BitVec.getLsbD_or, ih, bit_shl _ (by omega), bit_bz, e, tb_bit x (by omega)]
    by_cases h0 : p = k
    · subst h0
      have h1 : p < 32 := by omega
      simp [h1]
    · by_cases h1 : p < k
      · have h2 : p < k + 1 := by omega
        have h3 : ¬ k ≤ p := by omega
        simp [h1, h2, h3]
      · have h2 : ¬ p < k + 1 := by omega
        have h4 : ¬ p - k = 0 := by omega
        simp [h1, h2, h4]
theorem tr_br (x : Int32) {n : Nat} (hn : n ≤ 20) : trR x n = brM x (nI n) n := by
  apply Int32.toBitVec_inj.mp
  apply BitVec.eq_of_getLsbD_eq
  intro i hi
  rw [tr_bit x n hn, br_bit x hn n (Nat.le_refl _)]
theorem eq_born {S : CS} {M : MSt} (hR : Rel S M) (a1 a2 a3 : Int32) : (cBorn S a1 a2 a3).1 = (mBorn M a1 a2 a3).1 ∧ Rel (cBorn S a1 a2 a3).2 (mBorn M a1 a2 a3).2 := by
  unfold cBorn mBorn
  rw [isLd_eq]
  cases isReg a1 with
  | false => exact ⟨rfl, hR⟩
  | true =>
    cases h2 : isLd a2 with
    | false => exact ⟨rfl, hR⟩
    | true =>
      obtain ⟨k, hk, e⟩ := isLd_k h2
      subst e
      have hp : 1 ≤ 2 ^ k := Nat.one_le_two_pow
      have hp2 : 2 ^ k ≤ 2 ^ 20 := Nat.pow_le_pow_right (by decide) hk
      rw [cond_true, cond_true, cond_true, cond_true, inL_gen a3 0 ((1 <<< (nI k &&& 31)) - 1) (a := 0) (b := Int32.toInt64 ((1 <<< (nI k &&& 31)) - 1)) rfl rfl, shl1 (by omega)]
      have hm : (nI (2 ^ k) - 1 : Int32) = nI (2 ^ k - 1) := by rw [show (1 : Int32) = nI 1 from rfl, pk_sub hp]
      rw [hm]
      by_cases h3 : a3 < 0
      · rw [if_pos h3, decide_eq_true h3]; exact ⟨rfl, hR⟩
      · rw [if_neg h3, decide_eq_false h3]
        have e1 : (nI (2 ^ k)).toInt = (2 ^ k : Nat) := nI_toInt (by omega)
        have e2 : (nI (2 ^ k - 1)).toInt = (2 ^ k - 1 : Nat) := nI_toInt (by omega)
        by_cases h4 : a3 < nI (2 ^ k)
        · rw [if_pos h4, decide_eq_false (by rw [Int32.lt_iff_toInt_lt] at h4 ⊢; rw [e1] at h4; rw [e2]; omega), show (!false && !false) = true from rfl, cond_true, nI_clamp (by omega), tr_br _ hk]
          exact ⟨rfl, Rel_hold hR (by omega) _ _ _ _ _⟩
        · rw [if_neg h4, decide_eq_true (by rw [Int32.lt_iff_toInt_lt] at h4 ⊢; rw [e1] at h4; rw [e2]; omega)]; exact ⟨rfl, hR⟩
/-! stalks -/
theorem ar_eq : ∀ x : Int32, areRg x = inL x.toInt64 0 4095 := by
  intro x
  rw [inL_gen x 0 4095 (a := 0) (b := 4095) rfl rfl]
  unfold areRg
  have hu : (ushrI x 12).toBitVec.toNat = x.toBitVec.toNat / 2 ^ 12 := pk_ushr x 12 12 rfl
  have hlt := x.toBitVec.isLt
  have hz : ushrI x 12 = 0 ↔ x.toBitVec.toNat / 2 ^ 12 = 0 := by
    rw [← hu]
    constructor
    · intro h; rw [h]; rfl
    · intro h; apply Int32.toBitVec_inj.mp; apply BitVec.eq_of_toNat_eq; rw [h]; rfl
  have ht : x.toInt = if 2 * x.toBitVec.toNat < 2 ^ 32 then (x.toBitVec.toNat : Int) else (x.toBitVec.toNat : Int) - (2 ^ 32 : Nat) := BitVec.toInt_eq_toNat_cond x.toBitVec
  have e0 : (0 : Int32).toInt = 0 := rfl
  have e1 : (4095 : Int32).toInt = 4095 := rfl
  by_cases h : x.toBitVec.toNat / 2 ^ 12 = 0
  · have h1 : x.toBitVec.toNat < 4096 := by omega
    rw [if_pos (by omega)] at ht
    rw [decide_eq_true (hz.mpr h), decide_eq_false (by rw [Int32.lt_iff_toInt_lt]; omega), decide_eq_false (by rw [Int32.lt_iff_toInt_lt]; omega)]; rfl
  · rw [decide_eq_false (fun q => h (hz.mp q))]
    by_cases h1 : 2 * x.toBitVec.toNat < 2 ^ 32
    · rw [if_pos h1] at ht
      rw [decide_eq_true (show (4095 : Int32) < x by rw [Int32.lt_iff_toInt_lt]; omega)]; simp
    · rw [if_neg h1] at ht
      rw [decide_eq_true (show x < 0 by rw [Int32.lt_iff_toInt_lt]; omega)]; simp
def cntB (x : Int32) : Nat → Nat
  | 0 => 0
  | i + 1 => cntB x i + bif tb x (nI i) then 1 else 0
theorem bc_64 : ∀ x y : Fin 64, bcI (nI (64 * x.val + y.val)) = nI (cntB (nI (64 * x.val + y.val)) 12) := by decide +kernel
theorem bc_all {k : Nat} (h : k < 4096) : bcI (nI k) = nI (cntB (nI k) 12) := by
  have q := bc_64 ⟨k / 64, by omega⟩ ⟨k % 64, by omega⟩
  dsimp only at q
  rw [show 64 * (k / 64) + k % 64 = k from by omega] at q
  exact q
theorem wn_eq {S : CS} {M : MSt} (hR : Rel S M) (x : Int32) : ∀ n, n ≤ 12 → (wnM M x n).1 = nI (cntB x n) ∧ (wnL S x n).1 = (wnM M x n).2.1 ∧ (wnM M x n).2.2.toInt = 2 * (wnL S x n).2.toInt ∧ -(n * 201326592 : Int) ≤ (wnL S x n).2.toInt ∧ (wnL S x n).2.toInt ≤ n * 201326592
  | 0, _ => ⟨rfl, rfl, rfl, by show -(((0 : Nat) : Int) * 201326592) ≤ (0 : Int64).toInt; decide, by show (0 : Int64).toInt ≤ ((0 : Nat) : Int) * 201326592; decide⟩
  | n + 1, h => by
    obtain ⟨a1, a2, a3, a4, a5⟩ := wn_eq hR x n (by omega)
    have e1 := hR.vw (i := n) (by omega)
    have b1 := hR.vb (i := n) (by omega)
    rw [wnM, wnL, cntB]
    cases tb x (nI n) with
    | false =>
      rw [cond_false, cond_false, cond_false]
      refine ⟨a1, a2, a3, ?_, ?_⟩ <;> omega
    | true =>
      rw [cond_true, cond_true, cond_true]
      dsimp only
      have e5 : ((wnL S x n).2 + S.2.2.2.2.1 n).toInt = (wnL S x n).2.toInt + (S.2.2.2.2.1 n).toInt := by rw [Int64.toInt_add, Int.bmod_def]; omega
      refine ⟨by rw [a1]; exact nI_inc _, by rw [a2, hR.1], ?_, ?_, ?_⟩
      · rw [e5, Int64.toInt_add, a3, e1, Int.bmod_def]; omega
      · rw [e5]; omega
      · rw [e5]; omega
theorem ar_k {x : Int32} (h : inL x.toInt64 0 4095 = true) : ∃ k : Nat, k ≤ 4095 ∧ x = nI k := by
  rw [inL_gen x 0 4095 (a := 0) (b := 4095) rfl rfl] at h
  simp only [Bool.and_eq_true, Bool.not_eq_true', decide_eq_false_iff_not] at h
  exact nI_of2 (M := 4095) (n := 4095) rfl h.1 (Int32.not_lt.mp h.2)
theorem eq_wins {S : CS} {M : MSt} (hR : Rel S M) (a1 a2 : Int32) : cWins S a1 a2 = mWins M a1 a2 := by
  obtain ⟨w1, w2, w3, w4, w5⟩ := wn_eq hR a1 12 (Nat.le_refl _)
  unfold cWins mWins
  rw [ar_eq, inL_gen a2 0 1 (a := 0) (b := 1) rfl rfl]
  cases h1 : inL a1.toInt64 0 4095 with
  | false => rw [cond_false, cond_false]
  | true =>
    rw [cond_true, cond_true]
    obtain ⟨k, hk, e⟩ := ar_k h1
    have hb : bcI a1 = (wnM M a1 12).1 := by rw [w1, e]; exact bc_all (by omega)
    rw [hb, w2]
    generalize (wnL S a1 12).2 = u at w3 w4 w5 ⊢
    generalize (wnM M a1 12).2.2 = v at w3 ⊢
    generalize (wnM M a1 12).1 = c1 at hb ⊢
    generalize (wnM M a1 12).2.1 = c2
    have e0 : (0 : Int64).toInt = 0 := rfl
    by_cases h2 : a2 < 0
    · rw [if_pos h2, decide_eq_true h2]; rfl
    · rw [if_neg h2, decide_eq_false h2]
      by_cases h3 : a2 ≤ 1
      · rw [if_pos h3, decide_eq_false (Int32.not_lt.mpr h3), show (!false && !false) = true from rfl, cond_true]
        by_cases h4 : 4 < c1
        · rw [if_pos h4, if_pos h4]
        · rw [if_neg h4, if_neg h4]
          by_cases h5 : c2 ≤ 14
          · rw [if_pos h5, if_pos h5]
            by_cases h6 : a2 = 0
            · rw [if_pos h6, if_pos h6]
              by_cases h7 : u ≤ 0
              · rw [if_pos h7, if_pos (by rw [Int64.le_iff_toInt_le] at h7 ⊢; omega)]
              · rw [if_neg h7, if_neg (by rw [Int64.le_iff_toInt_le] at h7 ⊢; omega)]
            · rw [if_neg h6, if_neg h6]
              by_cases h7 : u < 0
              · rw [decide_eq_true h7, cond_true, if_neg (by rw [Int64.lt_iff_toInt_lt] at h7; rw [Int64.le_iff_toInt_le]; omega)]
              · rw [decide_eq_false h7, cond_false, if_pos (by rw [Int64.lt_iff_toInt_lt] at h7; rw [Int64.le_iff_toInt_le]; omega)]
          · rw [if_neg h5, if_neg h5]
      · rw [if_neg h3, decide_eq_true (Int32.not_le.mp h3)]; rfl
