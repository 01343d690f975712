theorem fp_none {S : CS} {l r : Int32} {i : Nat} (h : tb l (nI i) = false) : ∀ f j, fpI S l r i f j = none
  | 0, _ => rfl
  | f + 1, j => by rw [fpI, h, cond_false]; exact fp_none h f (j + 1)
theorem Rel.vlt {S : CS} {M : MSt} (hR : Rel S M) {i j : Nat} (hi : i < 12) (hj : j < 12) : S.2.2.2.2.1 i < S.2.2.2.2.1 j ↔ wO M i < wO M j := by
  have e1 := hR.vw hi
  have e2 := hR.vw hj
  rw [Int64.lt_iff_toInt_lt, Int64.lt_iff_toInt_lt]; omega
theorem fpI_eq {S : CS} {M : MSt} (hR : Rel S M) {l r : Int32} {i : Nat} (hi : i < 12) : ∀ f j, j + f = 12 → fpI S l r i f j = fqI M l r i f j
  | 0, _, _ => rfl
  | f + 1, j, h => by
    rw [fqI]
    cases h1 : tb l (nI i) with
    | false => rw [cond_false]; exact fp_none h1 _ _
    | true =>
      rw [fpI, h1, cond_true, cond_true, fpI_eq hR hi f (j + 1) (by omega)]
      cases tb r (nI j) with
      | false => rw [cond_false, cond_false]
      | true =>
        rw [cond_true, cond_true]
        by_cases q : S.2.2.2.2.1 i < S.2.2.2.2.1 j
        · rw [if_pos q, if_pos ((hR.vlt hi (by omega)).mp q)]
        · rw [if_neg q, if_neg (fun z => q ((hR.vlt hi (by omega)).mpr z))]
theorem fpO_eq {S : CS} {M : MSt} (hR : Rel S M) {l r : Int32} : ∀ f i, i + f = 12 → fpO S l r f i = fqO M l r f i
  | 0, _, _ => rfl
  | f + 1, i, h => by
    rw [fpO, fqO, fpI_eq hR (by omega) 12 0 rfl, fpO_eq hR f (i + 1) (by omega)]
    cases fqI M l r i 12 0 <;> rfl
/-- the limits of both: none, or one value -/
theorem lim_eq {S : CS} {M : MSt} (hR : Rel S M) (l r : Int32) : ∀ n, n ≤ 12 → ((mcL M l r n).1.1 = false ∧ laA S l n = -1152921504606846976 ∨ (mcL M l r n).1.1 = true ∧ -201326592 ≤ (laA S l n).toInt - 1 ∧ (laA S l n).toInt - 1 ≤ 201326592 ∧ (mcL M l r n).1.2.toInt = 2 * ((laA S l n).toInt - 1)) ∧ ((mcL M l r n).2.1 = false ∧ gbA S r n = 1152921504606846976 ∨ (mcL M l r n).2.1 = true ∧ -201326592 ≤ (gbA S r n).toInt + 1 ∧ (gbA S r n).toInt + 1 ≤ 201326592 ∧ (mcL M l r n).2.2.toInt = 2 * ((gbA S r n).toInt + 1))
  | 0, _ => ⟨Or.inl ⟨rfl, rfl⟩, Or.inl ⟨rfl, rfl⟩⟩
  | n + 1, h => by
    obtain ⟨hA, hB⟩ := lim_eq hR l r n (by omega)
    have e1 := hR.vw (i := n) (by omega)
    have b1 := hR.vb (i := n) (by omega)
    have em : (-1152921504606846976 : Int64).toInt = -1152921504606846976 := by decide
    have ex : (1152921504606846976 : Int64).toInt = 1152921504606846976 := by decide
    have ea : (S.2.2.2.2.1 n + 1).toInt = (S.2.2.2.2.1 n).toInt + 1 := by rw [Int64.toInt_add, show (1 : Int64).toInt = 1 from rfl, Int.bmod_def]; omega
    have es : (S.2.2.2.2.1 n - 1).toInt = (S.2.2.2.2.1 n).toInt - 1 := by rw [Int64.toInt_sub, show (1 : Int64).toInt = 1 from rfl, Int.bmod_def]; omega
    rw [mcL, laA, gbA]
    generalize mcL M l r n = mm at hA hB ⊢
    obtain ⟨⟨p, lo⟩, q, hi⟩ := mm
    dsimp only at hA hB ⊢
    generalize laA S l n = A at hA ⊢
    generalize gbA S r n = B at hB ⊢
    generalize S.2.2.2.2.1 n + 1 = va at ea ⊢
    generalize S.2.2.2.2.1 n - 1 = vs at es ⊢
    generalize S.2.2.2.2.1 n = v at e1 b1 ea es
    generalize wO M n = w at e1 ⊢
    constructor
    · cases tb l (nI n) with
      | false => simp only [cond_false]; exact hA
      | true =>
        simp only [cond_true]
        refine Or.inr ⟨trivial, ?_⟩
        rcases hA with ⟨h1, h2⟩ | ⟨h1, h2, h3, h4⟩
        · subst h1 h2
          rw [cond_false, if_neg (by rw [Int64.lt_iff_toInt_lt, em]; omega)]
          omega
        · subst h1
          rw [cond_true]
          by_cases z : va < A
          · rw [if_pos z]
            rw [Int64.lt_iff_toInt_lt] at z
            rw [if_pos (by rw [Int64.le_iff_toInt_le]; omega)]
            exact ⟨h2, h3, h4⟩
          · rw [if_neg z]
            rw [Int64.lt_iff_toInt_lt] at z
            by_cases z2 : w ≤ lo
            · rw [if_pos z2]
              rw [Int64.le_iff_toInt_le] at z2
              omega
            · rw [if_neg z2]; omega
    · cases tb r (nI n) with
      | false => simp only [cond_false]; exact hB
      | true =>
        simp only [cond_true]
        refine Or.inr ⟨trivial, ?_⟩
        rcases hB with ⟨h1, h2⟩ | ⟨h1, h2, h3, h4⟩
        · subst h1 h2
          rw [cond_false, if_pos (by rw [Int64.lt_iff_toInt_lt, ex]; omega)]
          omega
        · subst h1
          rw [cond_true]
          by_cases z : vs < B
          · rw [if_pos z]
            rw [Int64.lt_iff_toInt_lt] at z
            by_cases z2 : hi ≤ w
            · rw [if_pos z2]
              rw [Int64.le_iff_toInt_le] at z2
              omega
            · rw [if_neg z2]; omega
          · rw [if_neg z]
            rw [Int64.lt_iff_toInt_lt] at z
            rw [if_pos (by rw [Int64.le_iff_toInt_le]; omega)]
            exact ⟨h2, h3, h4⟩
theorem fn_eq {A B lo hi : Int64} {p q : Bool} (hA : p = false ∧ A = -1152921504606846976 ∨ p = true ∧ -201326592 ≤ A.toInt - 1 ∧ A.toInt - 1 ≤ 201326592 ∧ lo.toInt = 2 * (A.toInt - 1)) (hB : q = false ∧ B = 1152921504606846976 ∨ q = true ∧ -201326592 ≤ B.toInt + 1 ∧ B.toInt + 1 ≤ 201326592 ∧ hi.toInt = 2 * (B.toInt + 1)) : ∀ (f n : Nat) (x : Int32), n + f = 25 → (hsL A B f n x = none → (fnS p lo q hi f n x).1 = false) ∧ ∀ r, hsL A B f n x = some r → fnS p lo q hi f n x = (true, r.1, r.2) ∧ r.1 ≤ 24
  | 0, n, x, _ => ⟨fun _ => rfl, fun q h => by cases h⟩
  | f + 1, n, x, h => by
    have e1 := wCM x (n := n) (by omega)
    have b1 := wC_bd x (n := n) (by omega)
    have em : (-1152921504606846976 : Int64).toInt = -1152921504606846976 := by decide
    have ex : (1152921504606846976 : Int64).toInt = 1152921504606846976 := by decide
    have i1 := fn_eq hA hB f (n + 1) x
    have i2 := fn_eq hA hB f (n + 1) (x ||| (1 <<< (nI n &&& 31)))
    rw [hsL, fnS]
    have low : (A ≤ wC x n ∧ (p = false ∨ p = true ∧ ¬ wM x n ≤ lo)) ∨ (¬ A ≤ wC x n ∧ p = true ∧ wM x n ≤ lo) := by
      rw [Int64.le_iff_toInt_le, Int64.le_iff_toInt_le]
      rcases hA with ⟨h1, h2⟩ | ⟨h1, h2, h3, h4⟩
      · left; refine ⟨?_, Or.inl h1⟩; rw [h2, em]; omega
      · by_cases z : A.toInt ≤ (wC x n).toInt
        · left; exact ⟨z, Or.inr ⟨h1, by omega⟩⟩
        · right; exact ⟨z, h1, by omega⟩
    have high : (B < wC x n ∧ q = true ∧ ¬ wM x n < hi) ∨ (¬ B < wC x n ∧ (q = false ∨ q = true ∧ wM x n < hi)) := by
      rw [Int64.lt_iff_toInt_lt, Int64.lt_iff_toInt_lt]
      rcases hB with ⟨h1, h2⟩ | ⟨h1, h2, h3, h4⟩
      · right; refine ⟨?_, Or.inl h1⟩; rw [h2, ex]; omega
      · by_cases z : B.toInt < (wC x n).toInt
        · left; exact ⟨z, h1, by omega⟩
        · right; exact ⟨z, Or.inr ⟨h1, by omega⟩⟩
    have next : ∀ y : Int32, ((n + 1 + f = 25 → (hsL A B f (n + 1) y = none → (fnS p lo q hi f (n + 1) y).1 = false) ∧ ∀ r, hsL A B f (n + 1) y = some r → fnS p lo q hi f (n + 1) y = (true, r.1, r.2) ∧ r.1 ≤ 24)) → (hsL A B f (n + 1) y = none → (if nI n = 24 then (false, n, x) else fnS p lo q hi f (n + 1) y).1 = false) ∧ ∀ r, hsL A B f (n + 1) y = some r → (if nI n = 24 then (false, n, x) else fnS p lo q hi f (n + 1) y) = (true, r.1, r.2) ∧ r.1 ≤ 24 := by
      intro y iy
      by_cases h3 : n = 24
      · rw [if_pos ((n24i (by omega)).mpr h3)]
        obtain rfl : f = 0 := by omega
        exact ⟨fun _ => rfl, fun q h => by cases h⟩
      · rw [if_neg (fun z => h3 ((n24i (by omega)).mp z))]
        exact iy (by omega)
    rcases low with ⟨l1, l2⟩ | ⟨l1, l2, l3⟩
    · rw [if_pos l1]
      have e5 : (bif p then (if wM x n ≤ lo then (if nI n = 24 then (false, n, x) else fnS p lo q hi f (n + 1) (x ||| (1 <<< (nI n &&& 31)))) else bif q then (if wM x n < hi then (true, n, x) else if nI n = 24 then (false, n, x) else fnS p lo q hi f (n + 1) x) else (true, n, x)) else bif q then (if wM x n < hi then (true, n, x) else if nI n = 24 then (false, n, x) else fnS p lo q hi f (n + 1) x) else (true, n, x)) = (bif q then (if wM x n < hi then (true, n, x) else if nI n = 24 then (false, n, x) else fnS p lo q hi f (n + 1) x) else (true, n, x)) := by
        rcases l2 with l2 | ⟨l2, l3⟩
        · rw [l2, cond_false]
        · rw [l2, cond_true, if_neg l3]
      rw [e5]
      rcases high with ⟨g1, g2, g3⟩ | ⟨g1, g2⟩
      · rw [if_pos g1]
        have e6 : (bif q then (if wM x n < hi then (true, n, x) else if nI n = 24 then (false, n, x) else fnS p lo q hi f (n + 1) x) else (true, n, x)) = (if nI n = 24 then (false, n, x) else fnS p lo q hi f (n + 1) x) := by
          rw [g2, cond_true, if_neg g3]
        rw [e6]
        exact next x i1
      · rw [if_neg g1]
        have e6 : (bif q then (if wM x n < hi then (true, n, x) else if nI n = 24 then (false, n, x) else fnS p lo q hi f (n + 1) x) else (true, n, x)) = (true, n, x) := by
          rcases g2 with g2 | ⟨g2, g3⟩
          · rw [g2, cond_false]
          · rw [g2, cond_true, if_pos g3]
        rw [e6]
        exact ⟨fun z => (by cases z), fun r hr => by cases hr; exact ⟨rfl, by omega⟩⟩
    · rw [if_neg l1]
      have e5 : (bif p then (if wM x n ≤ lo then (if nI n = 24 then (false, n, x) else fnS p lo q hi f (n + 1) (x ||| (1 <<< (nI n &&& 31)))) else bif q then (if wM x n < hi then (true, n, x) else if nI n = 24 then (false, n, x) else fnS p lo q hi f (n + 1) x) else (true, n, x)) else bif q then (if wM x n < hi then (true, n, x) else if nI n = 24 then (false, n, x) else fnS p lo q hi f (n + 1) x) else (true, n, x)) = (if nI n = 24 then (false, n, x) else fnS p lo q hi f (n + 1) (x ||| (1 <<< (nI n &&& 31)))) := by
        rw [l2, cond_true, if_pos l3]
      rw [e5]
      exact next _ i2
theorem eq_cut {S : CS} {M : MSt} (hR : Rel S M) (a1 a2 a3 : Int32) : (cCut S a1 a2 a3).1 = (mCut M a1 a2 a3).1 ∧ Rel (cCut S a1 a2 a3).2 (mCut M a1 a2 a3).2 := by
  unfold cCut mCut
  rw [ar_eq, ar_eq]
  cases isReg a1 with
  | false => rw [cond_false, cond_false]; exact ⟨rfl, hR⟩
  | true =>
    rw [cond_true, cond_true]
    cases inL a2.toInt64 0 4095 with
    | false => rw [cond_false, cond_false]; exact ⟨rfl, hR⟩
    | true =>
      rw [cond_true, cond_true]
      cases inL a3.toInt64 0 4095 with
      | false => rw [cond_false, cond_false]; exact ⟨rfl, hR⟩
      | true =>
        rw [cond_true, cond_true]
        have hf := fpO_eq hR (l := a2) (r := a3) 12 0 rfl
        unfold cFP
        rw [hf]
        cases fqO M a2 a3 12 0 with
        | some q =>
          dsimp only
          rw [cond_true]
          obtain ⟨h1, h2, h3, h4, h5, h6, h7, h8, h9⟩ := hR
          exact ⟨rfl, h1, h2, rfl, rfl, h5, h6, h7, h8, h9⟩
        | none =>
          dsimp only
          rw [cond_false]
          obtain ⟨l1, l2⟩ := lim_eq hR a2 a3 12 (Nat.le_refl _)
          unfold mCutE mKH mFin cHS
          generalize (mcL M a2 a3 12).1.1 = p at l1 ⊢
          generalize (mcL M a2 a3 12).1.2 = lo at l1 ⊢
          generalize (mcL M a2 a3 12).2.1 = q at l2 ⊢
          generalize (mcL M a2 a3 12).2.2 = hi at l2 ⊢
          generalize laA S a2 12 = A at l1 ⊢
          generalize gbA S a3 12 = B at l2 ⊢
          obtain ⟨n1, n2⟩ := fn_eq l1 l2 25 0 0 rfl
          cases hq : hsL A B 25 0 0 with
          | none =>
            rw [n1 hq]
            exact ⟨rfl, hR⟩
          | some r =>
            obtain ⟨n3, n4⟩ := n2 r hq
            rw [n3]
            exact ⟨rfl, Rel_hold hR n4 _ _ _ _ _⟩
