theorem cpF_in {α : Type} {a : Nat → α} {z f j : Nat} (hj : j < 13) : cpF a z f 13 (13 * z + j) = a (13 * f + j) := by
  unfold cpF; rw [if_pos (by omega), show 13 * z + j - 13 * z = j from by omega]
theorem cpF_out {α : Type} {a : Nat → α} {z f i : Nat} (h : ¬ (13 * z ≤ i ∧ i < 13 * z + 13)) : cpF a z f 13 i = a i := by
  unfold cpF; rw [if_neg h]
theorem cpN_in {α : Type} {a : Nat → α} {z j : Nat} {d : α} (hj : j < 13) : cpN a z d 13 (13 * z + j) = d := by
  unfold cpN; rw [if_pos (by omega)]
theorem cpN_out {α : Type} {a : Nat → α} {z i : Nat} {d : α} (h : ¬ (13 * z ≤ i ∧ i < 13 * z + 13)) : cpN a z d 13 i = a i := by
  unfold cpN; rw [if_neg h]
theorem cpy_in {h g : Nat → Int64} {j : Nat} (hj : j < 13) : cpyG h g 13 j = h j := if_pos hj
theorem HA_cpN {M : MSt} (h : HA M) {z : Nat} : HA (mCpN M z) := by
  intro i hi
  show -1000000000 ≤ (cpN (abM M) z 0 13 i).toInt ∧ (cpN (abM M) z 0 13 i).toInt ≤ 1000000000
  unfold cpN
  by_cases q : 13 * z ≤ i ∧ i < 13 * z + 13
  · rw [if_pos q]; decide
  · rw [if_neg q]; exact h i hi
theorem HA_cpF {M : MSt} (h : HA M) {z f : Nat} (hf : f < 10) : HA (mCpF M z f) := by
  intro i hi
  show -1000000000 ≤ (cpF (abM M) z f 13 i).toInt ∧ (cpF (abM M) z f 13 i).toInt ≤ 1000000000
  unfold cpF
  by_cases q : 13 * z ≤ i ∧ i < 13 * z + 13
  · rw [if_pos q]; exact h _ (by omega)
  · rw [if_neg q]; exact h i hi
theorem Rel_cpF {S : CS} {N : MSt} (hR : Rel S N) {z f : Nat} (hz : 8 ≤ z) (hf : f < 10) : Rel S (mCpF N z f) := by
  refine ⟨hR.1, hR.2.1, hR.2.2.1, hR.2.2.2.1, hR.2.2.2.2.1, hR.2.2.2.2.2.1, HB_cpF hR.hB hf, HA_cpF hR.hA hf, ?_⟩
  intro y hy i hi
  show PF _ (cpF (abM N) z f 13 (13 * y + i)) (cpF (blM N) z f 13 (13 * y + i))
  rw [cpF_out (by omega), cpF_out (by omega)]
  exact hR.pf hy hi
theorem Rel_cpN {S : CS} {N : MSt} (hR : Rel S N) {z : Nat} (hz : 8 ≤ z) : Rel S (mCpN N z) := by
  refine ⟨hR.1, hR.2.1, hR.2.2.1, hR.2.2.2.1, hR.2.2.2.2.1, hR.2.2.2.2.2.1, HB_cpN hR.hB, HA_cpN hR.hA, ?_⟩
  intro y hy i hi
  show PF _ (cpN (abM N) z 0 13 (13 * y + i)) (cpN (blM N) z 0 13 (13 * y + i))
  rw [cpN_out (by omega), cpN_out (by omega)]
  exact hR.pf hy hi
theorem SR_cpF {N : MSt} {z f : Nat} {g h : Nat → Int64} (hg : SR g N f) : SR (cpyG g h 13) (mCpF N z f) z := by
  intro i hi
  show PF _ (cpF (abM N) z f 13 (13 * z + i)) (cpF (blM N) z f 13 (13 * z + i))
  rw [cpF_in hi, cpF_in hi, cpy_in hi]
  exact hg i hi
theorem SR_cpN {N : MSt} {z : Nat} {h : Nat → Int64} : SR (cpyG (fun _ => 0) h 13) (mCpN N z) z := by
  intro i hi
  show PF _ (cpN (abM N) z 0 13 (13 * z + i)) (cpN (blM N) z 0 13 (13 * z + i))
  rw [cpN_in hi, cpN_in hi, cpy_in hi]
  exact PF_0
theorem SR_cpFn {N : MSt} {z f z2 : Nat} {g : Nat → Int64} (hn : z2 ≠ z) (hg : SR g N z2) : SR g (mCpF N z f) z2 := by
  intro i hi
  show PF _ (cpF (abM N) z f 13 (13 * z2 + i)) (cpF (blM N) z f 13 (13 * z2 + i))
  rw [cpF_out (by omega), cpF_out (by omega)]
  exact hg i hi
theorem SR_cpNn {N : MSt} {z z2 : Nat} {g : Nat → Int64} (hn : z2 ≠ z) (hg : SR g N z2) : SR g (mCpN N z) z2 := by
  intro i hi
  show PF _ (cpN (abM N) z 0 13 (13 * z2 + i)) (cpN (blM N) z 0 13 (13 * z2 + i))
  rw [cpN_out (by omega), cpN_out (by omega)]
  exact hg i hi
theorem Rel.sr {S : CS} {N : MSt} (hR : Rel S N) {z : Nat} (hz : z < 8) : SR (fC S z) N z := fun j hj => hR.pf hz hj
theorem Rel_F {S : CS} {N : MSt} (hR : Rel S N) {F : Nat → Nat → Int64} (hF : ∀ y, y < 8 → F y = fC S y) : Rel (sF S F) N := by
  refine ⟨hR.1, hR.2.1, hR.2.2.1, hR.2.2.2.1, hR.2.2.2.2.1, hR.2.2.2.2.2.1, hR.hB, hR.hA, ?_⟩
  intro y hy i hi
  show PF (F y i) _ _
  rw [hF y hy]; exact hR.pf hy hi
theorem Rel_into {S : CS} {N : MSt} (hR : Rel S N) {F : Nat → Nat → Int64} {z w : Nat} {g h : Nat → Int64} (hw : w < 10) (hg : SR g N w) (hF : ∀ y, y < 8 → y ≠ z → F y = fC S y) (hz : F z = cpyG g h 13) : Rel (sF S F) (mCpF N z w) := by
  refine ⟨hR.1, hR.2.1, hR.2.2.1, hR.2.2.2.1, hR.2.2.2.2.1, hR.2.2.2.2.2.1, HB_cpF hR.hB hw, HA_cpF hR.hA hw, ?_⟩
  intro y hy i hi
  by_cases q : y = z
  · subst q
    show PF (F y i) _ _
    rw [hz]
    exact SR_cpF hg i hi
  · show PF (F y i) (cpF (abM N) z w 13 (13 * y + i)) (cpF (blM N) z w 13 (13 * y + i))
    rw [hF y hy q, cpF_out (by omega), cpF_out (by omega)]
    exact hR.pf hy hi
theorem cnt_eq {g : Nat → Int64} {a : Nat → Int64} {z : Nat} (h : ∀ j, j < 13 → (g j = 0 ↔ a (13 * z + j) = 0)) : ∀ n, n ≤ 13 → cntG g n = tmM a z n
  | 0, _ => rfl
  | n + 1, hn => by
    rw [cntG, tmM, cnt_eq h n (by omega)]
    by_cases q : g n = 0
    · rw [if_pos q, decide_eq_false (show ¬ ¬ a (13 * z + n) = 0 from fun w => w ((h n (by omega)).mp q))]
      exact (Int32.add_zero _).symm
    · rw [if_neg q, decide_eq_true (show ¬ a (13 * z + n) = 0 from fun w => q ((h n (by omega)).mpr w))]
      rfl
theorem SR.z {g : Nat → Int64} {N : MSt} {z : Nat} (h : SR g N z) : ∀ j, j < 13 → (g j = 0 ↔ abM N (13 * z + j) = 0) := fun j hj => (h j hj).zero
theorem slt_eq {g : Nat → Int64} {a : Nat → Int64} {z : Nat} (h : ∀ j, j < 13 → (g j = 0 ↔ a (13 * z + j) = 0)) : ∀ n, n ≤ 13 → ∀ i : Int32, sltG g n i = sltG (fun j => a (13 * z + j)) n i
  | 0, _, _ => rfl
  | n + 1, hn, i => by
    rw [sltG, sltG]
    by_cases q : g n = 0
    · rw [if_pos q, if_pos ((h n (by omega)).mp q)]; exact slt_eq h n (by omega) i
    · rw [if_neg q, if_neg (fun w => q ((h n (by omega)).mpr w))]
      by_cases w : i = 0
      · rw [if_pos w, if_pos w]
      · rw [if_neg w, if_neg w]; exact slt_eq h n (by omega) _
theorem gr_slt {g : Nat → Int64} {a : Nat → Int64} {z : Nat} (h : ∀ j, j < 13 → (g j = 0 ↔ a (13 * z + j) = 0)) : ∀ n, n ≤ 13 → (grM a z n = 0 ∧ sltG g n 0 = none) ∨ ∃ m, m < n ∧ grM a z n = m + 1 ∧ sltG g n 0 = some m
  | 0, _ => Or.inl ⟨rfl, rfl⟩
  | n + 1, hn => by
    rw [sltG, grM]
    by_cases q : g n = 0
    · rw [if_pos q, if_pos ((h n (by omega)).mp q)]
      rcases gr_slt h n (by omega) with u | ⟨m, u1, u2⟩
      · exact Or.inl u
      · exact Or.inr ⟨m, by omega, u2⟩
    · rw [if_neg q, if_neg (fun w => q ((h n (by omega)).mpr w)), if_pos rfl]
      exact Or.inr ⟨n, by omega, rfl, rfl⟩
theorem gr_R {g : Nat → Int64} {N : MSt} {z : Nat} (h : SR g N z) : (grM (abM N) z 13 = 0 ∧ sltR g 0 = -1) ∨ ∃ m, m < 13 ∧ grM (abM N) z 13 = m + 1 ∧ sltR g 0 = nI m ∧ ¬ g m = 0 := by
  rcases gr_slt h.z 13 (Nat.le_refl _) with ⟨u1, u2⟩ | ⟨m, u1, u2, u3⟩
  · left; refine ⟨u1, ?_⟩; unfold sltR; rw [u2]
  · right; refine ⟨m, u1, u2, ?_, ?_⟩
    · unfold sltR; rw [u3]
    · intro q; exact gr_ne u2 ((h.z m u1).mp q)
theorem nI_nn {j : Nat} (h : j < 2 ^ 31) : (0 : Int32) ≤ nI j := by
  have : nI 0 ≤ nI j := nI_le (by omega) h
  exact this
theorem eq_told {S : CS} {M : MSt} (hR : Rel S M) (a1 a2 a3 : Int32) : cTold S a1 a2 a3 = mTold M a1 a2 a3 := by
  unfold cTold mTold
  rw [inL_gen a3 0 2 (a := 0) (b := 2) rfl rfl]
  cases h1 : isSm a1 with
  | false => rw [cond_false, cond_false]
  | true =>
    rw [cond_true, cond_true]
    by_cases h2 : a2 < 0
    · rw [if_pos h2, if_pos h2]
    · rw [if_neg h2, if_neg h2]
      by_cases h3 : a3 < 0
      · rw [if_pos h3, decide_eq_true h3]; rfl
      · rw [if_neg h3, decide_eq_false h3]
        by_cases h4 : a3 ≤ 2
        · rw [if_pos h4, decide_eq_false (Int32.not_lt.mpr h4), show (!false && !false) = true from rfl, cond_true]
          have hz := sm_lt h1
          have hS := hR.sr hz
          have e1 := slt_eq hS.z 13 (Nat.le_refl _) a2
          show (if 0 ≤ sltR (fC S a1.toNatClampNeg) a2 then _ else _) = match sltG (fun j => abM M (13 * a1.toNatClampNeg + j)) 13 a2 with
            | none => _
            | some j => _
          rw [← e1]
          unfold sltR
          cases e2 : sltG (fC S a1.toNatClampNeg) 13 a2 with
          | none => exact if_neg (by decide)
          | some j =>
            have hj := sltG_lt e2
            show (if 0 ≤ nI j then (if a3 = 0 then nI j - 6 else if a3 = 1 then lAbo (fC S a1.toNatClampNeg (nI j).toNatClampNeg) 20 else lBel (fC S a1.toNatClampNeg (nI j).toNatClampNeg) 20) else -1000000004) = _
            rw [if_pos (nI_nn (by omega)), nI_clamp (by omega), (hS j hj).lb.1, (hS j hj).lb.2]
        · rw [if_neg h4, decide_eq_true (Int32.not_le.mp h4)]; rfl
theorem zz57c : True := trivial
