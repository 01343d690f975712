theorem tdiv2 {s : Int64} (h0 : 0 ≤ s.toInt) : (s / 2).toInt = s.toInt / 2 := by
  rw [Int64.toInt_div, show (2 : Int64).toInt = 2 from rfl, Int.tdiv_eq_ediv_of_nonneg h0, Int.bmod_def]
  have := Int64.toInt_lt s
  omega
theorem sub2 {s : Int64} (h0 : 0 ≤ s.toInt) : (s - s / 2 * 2).toInt = s.toInt % 2 := by
  rw [Int64.toInt_sub, Int64.toInt_mul, tdiv2 h0, show (2 : Int64).toInt = 2 from rfl]
  have := Int64.toInt_lt s
  rw [Int.bmod_def, Int.bmod_def]
  omega
theorem ev2 {s : Int64} (h0 : 0 ≤ s.toInt) : s - s / 2 * 2 = 0 ↔ s.toInt % 2 = 0 := by
  rw [← Int64.toInt_inj, sub2 h0]; rfl
def szL : Nat → Int64 → Nat → Int64 × Nat
  | 0, s, j => (s, j)
  | f + 1, s, j => if s - s / 2 * 2 = 0 then szL f (s / 2) (j + 1) else (s, j)
abbrev HA (M : MSt) : Prop := ∀ i : Nat, i < 130 → -1000000000 ≤ (abM M i).toInt ∧ (abM M i).toInt ≤ 1000000000
theorem gr_ne {a : Nat → Int64} {z : Nat} : ∀ {j m : Nat}, grM a z j = m + 1 → ¬ a (13 * z + m) = 0
  | 0, _, h => by cases h
  | j + 1, m, h => by
    rw [grM] at h
    by_cases h1 : a (13 * z + j) = 0
    · rw [if_pos h1] at h; exact gr_ne h
    · rw [if_neg h1] at h
      have : m = j := by omega
      rw [this]; exact h1
theorem sz_b {a : Int64} (h0 : ¬ a = 0) (h1 : -1000000000 ≤ a.toInt) (h2 : a.toInt ≤ 1000000000) : 0 < (if 0 ≤ a then a else -a).toInt ∧ (if 0 ≤ a then a else -a).toInt < 2 ^ 31 := by
  have h3 : a.toInt ≠ 0 := fun q => h0 (Int64.toInt_inj.mp q)
  by_cases h : 0 ≤ a
  · rw [if_pos h]
    rw [Int64.le_iff_toInt_le] at h
    have e0 : (0 : Int64).toInt = 0 := rfl
    omega
  · rw [if_neg h]
    rw [Int64.le_iff_toInt_le] at h
    have e0 : (0 : Int64).toInt = 0 := rfl
    rw [Int64.toInt_neg, Int.bmod_def]
    omega
theorem sz_h {s : Int64} {f : Nat} (h0 : 0 < s.toInt) (h1 : s.toInt < 2 ^ (f + 1)) (h : s - s / 2 * 2 = 0) : 0 < (s / 2).toInt ∧ (s / 2).toInt < 2 ^ f := by
  rw [ev2 (by omega)] at h
  rw [tdiv2 (by omega)]
  rw [Int.pow_succ] at h1
  omega
def sgnD (a : Int64) : Int64 := if 0 ≤ a then 1 else -1
def dk (N : MSt) (y g2 jj f2 : Nat) : Int32 := nI (bN N (13 * 8 + f2)) + nI jj - nI (bN N (13 * y + g2))
def dkN (k : Int32) : Nat := (if 0 ≤ k then k else 0).toNatClampNeg
def db2 (b : Int64) (k : Int32) : Int64 := if 0 ≤ k then b else shlL b (-k)
theorem dkN_e (k : Int32) : (if 0 ≤ k then k else 0) = nI (dkN k) := by
  unfold dkN
  by_cases h : 0 ≤ k
  · rw [if_pos h]
    obtain ⟨j, hj, e⟩ := nI_of (Int32.not_lt.mpr h)
    rw [e, nI_clamp hj]
  · rw [if_neg h]; rfl
theorem dkN_lt (k : Int32) : dkN k < 2 ^ 31 := by
  unfold dkN
  by_cases h : 0 ≤ k
  · rw [if_pos h]
    obtain ⟨j, hj, e⟩ := nI_of (Int32.not_lt.mpr h)
    rw [e, nI_clamp hj]; exact hj
  · rw [if_neg h]; decide
def dgL (y : Nat) (up : Int64) (dn : Nat) (fe : Int32) : Nat → MSt → Bool × MSt
  | 0, N => (true, N)
  | j + 1, N => if abM N (13 * y + j) = 0 then dgL y up dn fe j N else bif (mMul N 8 (fe + (nI j - 6)) up dn (abM N (13 * y + j)) (bN N (13 * y + j)) (-1)).1 then dgL y up dn fe j (mMul N 8 (fe + (nI j - 6)) up dn (abM N (13 * y + j)) (bN N (13 * y + j)) (-1)).2 else (false, (mMul N 8 (fe + (nI j - 6)) up dn (abM N (13 * y + j)) (bN N (13 * y + j)) (-1)).2)
def rdK (N : MSt) (a : Int64) (y g2 jj f2 : Nat) : Nat := dkN (dk N y g2 jj f2)
def rdB (N : MSt) (a : Int64) (y g2 jj f2 : Nat) : Int64 := db2 (abM N (13 * 8 + f2) * sgnD a) (dk N y g2 jj f2)
def rnE (y : Nat) (up : Int64) (dn : Nat) (fe : Int32) (r : Bool × MSt) : Bool × MSt := bif r.1 then dgL y up dn fe 13 r.2 else (false, r.2)
def rndG (N : MSt) (B : Int64) (k : Nat) (y : Nat) (fe : Int32) : Bool × MSt := bif plM B k then rnE y (rdM k B).1 (rdM k B).2 fe (mPut (mPl N B k) 9 fe (rdM k B).1 (rdM k B).2) else (false, mPl N B k)
def mRnd (N : MSt) (a : Int64) (y g2 jj f2 : Nat) : Bool × MSt := rndG N (rdB N a y g2 jj f2) (rdK N a y g2 jj f2) y ((nI f2 - 6) - (nI g2 - 6))
def dvM (a : Int64) (y g2 jj : Nat) : Nat → Nat → MSt → Bool × Nat × MSt
  | 0, n, N => (true, n, N)
  | f + 1, n, N => if nI (grM (abM N) 8 13) - 7 < -6 then (true, n, N) else if (nI (grM (abM N) 8 13) - 7) - (nI g2 - 6) < -6 then (true, n, N) else bif (mRnd N a y g2 jj (grM (abM N) 8 13 - 1)).1 then dvM a y g2 jj f (n + 1) (mRnd N a y g2 jj (grM (abM N) 8 13 - 1)).2 else (false, n, (mRnd N a y g2 jj (grM (abM N) 8 13 - 1)).2)
theorem dvM_s {a : Int64} {y g2 jj m n : Nat} {N : MSt} (e : n < m) : dvM a y g2 jj (m - n) n N = (if nI (grM (abM N) 8 13) - 7 < -6 then (true, n, N) else if (nI (grM (abM N) 8 13) - 7) - (nI g2 - 6) < -6 then (true, n, N) else bif (mRnd N a y g2 jj (grM (abM N) 8 13 - 1)).1 then dvM a y g2 jj (m - (n + 1)) (n + 1) (mRnd N a y g2 jj (grM (abM N) 8 13 - 1)).2 else (false, n, (mRnd N a y g2 jj (grM (abM N) 8 13 - 1)).2)) := by
  rw [show m - n = (m - (n + 1)) + 1 from by omega]
  rfl
theorem dvM_0 {a : Int64} {y g2 jj m : Nat} {N : MSt} : dvM a y g2 jj (m - m) m N = (true, m, N) := by
  rw [Nat.sub_self]; rfl
def absD (a : Int64) : Int64 := if 0 ≤ a then a else -a
def yG (M : MSt) (y : Nat) : Nat := grM (abM M) y 13 - 1
def yA (M : MSt) (y : Nat) : Int64 := abM M (13 * y + yG M y)
def mDvS (M : MSt) (x y m : Nat) : Bool × Nat × MSt := dvM (yA M y) y (yG M y) (szL 31 (absD (yA M y)) 0).2 m 0 (mCpN (mCpF M 8 x) 9)
def mDvE (q r : Int32) (u : Bool × Nat × MSt) : Int32 × MSt := bif u.1 then (nI u.2.1, mCpF (mCpF u.2.2 q.toNatClampNeg 9) r.toNatClampNeg 8) else (-5, u.2.2)
def mDiv (M : MSt) (q r x y n : Int32) : Int32 × MSt := bif isSm q then bif isSm r then (if q = r then (-1, M) else bif isSm x then bif isSm y then bif inL n.toInt64 1 20 then (if -6 ≤ nI (grM (abM M) y.toNatClampNeg 13) - 7 then (if (szL 31 (absD (yA M y.toNatClampNeg)) 0).1 = 1 then mDvE q r (mDvS M x.toNatClampNeg y.toNatClampNeg n.toNatClampNeg) else (-2, M)) else (-2, M)) else (-1, M) else (-1, M) else (-1, M)) else (-1, M) else (-1, M)
theorem in120 {n : Int32} (h : inL n.toInt64 1 20 = true) : ∃ k : Nat, k ≤ 20 ∧ n = nI k := by
  rw [inL_gen n 1 20 (a := 1) (b := 20) rfl rfl] at h
  simp only [Bool.and_eq_true, Bool.not_eq_true', decide_eq_false_iff_not] at h
  exact rnd_k h.1 (Int32.not_lt.mp h.2)
theorem HB_pl {M : MSt} {a : Int64} {k : Nat} (h : HB M) : HB (mPl M a k) := h
theorem HB_dg {y : Nat} (hy : y < 10) {up : Int64} {dn : Nat} (hd : dn ≤ 20) {fe : Int32} (j : Nat) : j ≤ 13 → ∀ N : MSt, HB N → HB (dgL y up dn fe j N).2 := by
  induction j with
  | zero => intro _ N h; exact h
  | succ j ih =>
    intro hj N h
    rw [dgL]
    by_cases h1 : abM N (13 * y + j) = 0
    · rw [if_pos h1]; exact ih (by omega) N h
    · rw [if_neg h1]
      have h2 : HB (mMul N 8 (fe + (nI j - 6)) up dn (abM N (13 * y + j)) (bN N (13 * y + j)) (-1)).2 := HB_mul h (by decide) (by have := HB.bn h (i := 13 * y + j) (by omega); omega)
      generalize mMul N 8 (fe + (nI j - 6)) up dn (abM N (13 * y + j)) (bN N (13 * y + j)) (-1) = r at h2 ⊢
      obtain ⟨b, P⟩ := r
      cases b with
      | false => exact h2
      | true => exact ih (by omega) P h2
theorem rdK_lt {N : MSt} {a : Int64} {y g2 jj f2 : Nat} : rdK N a y g2 jj f2 < 2 ^ 31 := dkN_lt _
theorem HB_rndG {N : MSt} (h : HB N) {B : Int64} {k y : Nat} {fe : Int32} (hk : k < 2 ^ 31) (hy : y < 10) : HB (rndG N B k y fe).2 := by
  unfold rndG
  cases hp : plM B k with
  | false => rw [cond_false]; exact HB_pl h
  | true =>
    have hr := pl_le hk hp
    rw [cond_true]
    unfold rnE
    have h2 : HB (mPut (mPl N B k) 9 fe (rdM k B).1 (rdM k B).2).2 := HB_put (HB_pl h) (by decide) (Nat.le_trans hr (by decide))
    generalize mPut (mPl N B k) 9 fe (rdM k B).1 (rdM k B).2 = r at h2 ⊢
    obtain ⟨b, P⟩ := r
    generalize hn : (13 : Nat) = n13
    cases b with
    | false => dsimp only; rw [cond_false]; exact h2
    | true => dsimp only; rw [cond_true]; exact HB_dg hy hr n13 (by omega) P h2
theorem HB_rnd {N : MSt} (h : HB N) {a : Int64} {y g2 jj f2 : Nat} (hy : y < 10) : HB (mRnd N a y g2 jj f2).2 := by
  unfold mRnd
  exact HB_rndG h rdK_lt hy
