theorem HB.c {M : MSt} (h : HB M) {i : Nat} (hi : i < 130) : blM M i = nI (blM M i).toNatClampNeg := by
  obtain ⟨b, hb, e⟩ := h i hi
  rw [e, nI_clamp (by omega)]
theorem HB.le {M : MSt} (h : HB M) {i : Nat} (hi : i < 130) : (blM M i).toNatClampNeg ≤ 20 := by
  obtain ⟨b, hb, e⟩ := h i hi
  rw [e, nI_clamp (by omega)]; exact hb
theorem pl_le {a : Int64} {k : Nat} (hk : k < 2 ^ 31) (h : plM a k = true) : (rdM k a).2 ≤ 20 := by
  unfold plM at h
  cases hi : inL (rdM k a).1 (-1000000000) 1000000000 with
  | false => rw [hi] at h; cases h
  | true =>
    rw [hi, cond_true] at h
    by_cases h2 : (20 : Int32) < nI (rdM k a).2
    · rw [if_pos h2] at h; cases h
    · have h3 := @rd_le k a
      rcases Nat.lt_or_ge 20 (rdM k a).2 with q | q
      · exact absurd (show nI 20 < nI (rdM k a).2 from nI_lt q (by omega)) h2
      · exact q
theorem HB_putJ {M : MSt} (h : HB M) {j : Nat} (hj : j < 130) {a : Int64} {k : Nat} (hk : k ≤ 40) : HB (mPutJ M j a k).2 := by
  unfold mPutJ
  have hm : mx (blM M j).toNatClampNeg k ≤ 40 := mx_le (by have := h.le hj; omega) hk
  cases hp : plM (putV (abM M j) (blM M j).toNatClampNeg a k) (mx (blM M j).toNatClampNeg k) with
  | false => exact h
  | true =>
    have hr := pl_le (by omega) hp
    intro i hi
    show ∃ b : Nat, b ≤ 20 ∧ upd (blM M) j _ i = nI b
    unfold upd
    by_cases e : i = j
    · rw [if_pos e]
      by_cases h0 : (rdM (mx (blM M j).toNatClampNeg k) (putV (abM M j) (blM M j).toNatClampNeg a k)).1 = 0
      · rw [if_pos h0]; exact ⟨0, by omega, rfl⟩
      · rw [if_neg h0]; exact ⟨_, hr, rfl⟩
    · rw [if_neg e]; exact h i hi
theorem HB_put {M : MSt} (h : HB M) {z : Nat} (hz : z < 10) {e : Int32} {a : Int64} {k : Nat} (hk : k ≤ 40) : HB (mPut M z e a k).2 := by
  unfold mPut
  cases hi : inL e.toInt64 (-6) 6 with
  | false => exact h
  | true =>
    obtain ⟨j, hj, -, ej⟩ := e_slot hi
    rw [cond_true, ej]
    exact HB_putJ h (by omega) hk
theorem HB_mul {M : MSt} (h : HB M) {z : Nat} (hz : z < 10) {e : Int32} {a b sn : Int64} {k l : Nat} (hk : k + l ≤ 40) : HB (mMul M z e a k b l sn).2 := by
  unfold mMul
  cases hi : inL e.toInt64 (-6) 6 with
  | false => exact h
  | true =>
    rw [cond_true]
    cases hp : plM (a * b) (k + l) with
    | false => exact h
    | true =>
      rw [cond_true]
      exact HB_put (M := mPl M (a * b) (k + l)) h hz (by have := pl_le (by omega) hp; omega)
theorem HB_cpN {M : MSt} (h : HB M) {z : Nat} : HB (mCpN M z) := by
  intro i hi
  show ∃ b : Nat, b ≤ 20 ∧ cpN (blM M) z 0 13 i = nI b
  unfold cpN
  split
  · exact ⟨0, by omega, rfl⟩
  · exact h i hi
theorem HB_cpF {M : MSt} (h : HB M) {z f : Nat} (hf : f < 10) : HB (mCpF M z f) := by
  intro i hi
  show ∃ b : Nat, b ≤ 20 ∧ cpF (blM M) z f 13 i = nI b
  unfold cpF
  split
  · exact h _ (by omega)
  · exact h i hi
abbrev bN (M : MSt) (i : Nat) : Nat := (blM M i).toNatClampNeg
theorem HB.bn {M : MSt} (h : HB M) {i : Nat} (hi : i < 130) : bN M i ≤ 20 := HB.le h hi
theorem HB.b40 {M : MSt} (h : HB M) {i : Nat} (hi : i < 130) : bN M i ≤ 40 := Nat.le_trans (HB.le h hi) (by decide)
theorem HB.b2 {M : MSt} (h : HB M) {i j : Nat} (hi : i < 130) (hj : j < 130) : bN M i + bN M j ≤ 40 := Nat.add_le_add (HB.le h hi) (HB.le h hj)
abbrev gMz (M : MSt) (z : Nat) : Nat → Int64 := fun j => abM M (13 * z + j)
def mT1 (M : MSt) (i : Nat) (a : Int64) (k : Nat) : MSt := mAB (mPl M a k) (vp_updL (abM M) i (rdM k a).1) (upd (blM M) i (if (rdM k a).1 = 0 then 0 else nI (rdM k a).2))
def mTerm (M : MSt) (z e a k : Int32) : Int32 × MSt := bif isSm z then bif inL e.toInt64 (-6) 6 then bif inL a.toInt64 (-1000000000) 1000000000 then bif inL k.toInt64 0 20 then (tmM (abM (mT1 M (13 * z.toNatClampNeg + (e + 6).toNatClampNeg) a.toInt64 k.toNatClampNeg)) z.toNatClampNeg 13, mT1 M (13 * z.toNatClampNeg + (e + 6).toNatClampNeg) a.toInt64 k.toNatClampNeg) else (-1, M) else (-1, M) else (-1, M) else (-1, M)
def mTold (M : MSt) (z i w : Int32) : Int32 := bif isSm z then (if i < 0 then -1000000001 else bif inL w.toInt64 0 2 then (match sltG (gMz M z.toNatClampNeg) 13 i with
    | none => -1000000004
    | some j => if w = 0 then nI j - 6 else if w = 1 then (abM M (13 * z.toNatClampNeg + j)).toInt32 else blM M (13 * z.toNatClampNeg + j)) else -1000000001) else -1000000001
def adL (y : Nat) (sn : Int64) : Nat → MSt → Bool × MSt
  | 0, M => (true, M)
  | j + 1, M => if abM M (13 * y + j) = 0 then adL y sn j M else bif (mPut M 9 (nI j - 6) (sn * abM M (13 * y + j)) (bN M (13 * y + j))).1 then adL y sn j (mPut M 9 (nI j - 6) (sn * abM M (13 * y + j)) (bN M (13 * y + j))).2 else (false, (mPut M 9 (nI j - 6) (sn * abM M (13 * y + j)) (bN M (13 * y + j))).2)
def prI (x y e : Nat) : Nat → Bool → MSt → Bool × MSt
  | 0, b, M => (b, M)
  | f + 1, b, M => if abM M (13 * x + e) = 0 then (b, M) else bif b then (if abM M (13 * y + f) = 0 then prI x y e f true M else prI x y e f (mMul M 9 ((nI e - 6) + (nI f - 6)) (abM M (13 * x + e)) (bN M (13 * x + e)) (abM M (13 * y + f)) (bN M (13 * y + f)) 1).1 (mMul M 9 ((nI e - 6) + (nI f - 6)) (abM M (13 * x + e)) (bN M (13 * x + e)) (abM M (13 * y + f)) (bN M (13 * y + f)) 1).2) else prI x y e f false M
def prO (x y : Nat) : Nat → Bool → MSt → Bool × MSt
  | 0, b, M => (b, M)
  | e + 1, b, M => prO x y e (prI x y e 13 b M).1 (prI x y e 13 b M).2
def mAdd (M : MSt) (x y : Nat) (sn : Int64) : Bool × MSt := adL y sn 13 (mCpF M 9 x)
def mPro (M : MSt) (x y : Nat) : Bool × MSt := prO x y 13 true (mCpN M 9)
def mSE (z : Int32) (r : Bool × MSt) : Int32 × MSt := bif r.1 then (tmM (abM (mCpF r.2 z.toNatClampNeg 9)) z.toNatClampNeg 13, mCpF r.2 z.toNatClampNeg 9) else (-5, r.2)
def mSum (M : MSt) (z how x y : Int32) : Int32 × MSt := bif isSm z then bif inL how.toInt64 0 2 then bif isSm x then bif isSm y then (if how = 2 then mSE z (mPro M x.toNatClampNeg y.toNatClampNeg) else if how = 0 then mSE z (mAdd M x.toNatClampNeg y.toNatClampNeg 1) else mSE z (mAdd M x.toNatClampNeg y.toNatClampNeg (-1))) else (-1, M) else (-1, M) else (-1, M) else (-1, M)
def mOrdE (r : Bool × MSt) : Int32 × MSt := bif r.1 then (if -6 ≤ nI (grM (abM r.2) 9 13) - 7 then (if abM r.2 (13 * 9 + (grM (abM r.2) 9 13 - 1)) ≤ 0 then (-1, r.2) else (1, r.2)) else (0, r.2)) else (-5, r.2)
def mOrd (M : MSt) (x y : Int32) : Int32 × MSt := bif isSm x then bif isSm y then mOrdE (mAdd M x.toNatClampNeg y.toNatClampNeg (-1)) else (-9, M) else (-9, M)
def mTake (M : MSt) (z s : Int32) : Int32 × MSt := bif isSm z then bif isReg s then (bif plM (wO M s.toNatClampNeg) 24 then (tmM (abM (mT1 (mCpN M z.toNatClampNeg) (13 * z.toNatClampNeg + 6) (wO M s.toNatClampNeg) 24)) z.toNatClampNeg 13, mT1 (mCpN M z.toNatClampNeg) (13 * z.toNatClampNeg + 6) (wO M s.toNatClampNeg) 24) else (-5, mPl M (wO M s.toNatClampNeg) 24)) else (-1, M) else (-1, M)
def mNear (M : MSt) (s z : Int32) : Int32 × MSt := bif isReg s then bif isSm z then (if nI (grM (abM M) z.toNatClampNeg 13) - 7 ≤ 0 then mKH s (mHas M (abM M (13 * z.toNatClampNeg + 6)) (bN M (13 * z.toNatClampNeg + 6))) else (-2, M)) else (-1, M) else (-1, M)
theorem gr_1 {n : Nat} (h : -6 ≤ nI n - 7) : ∃ m, n = m + 1 := by
  cases n with
  | zero => exact absurd h (by decide)
  | succ m => exact ⟨m, rfl⟩
theorem gr_le {a : Nat → Int64} {z : Nat} : ∀ {j : Nat}, grM a z j ≤ j
  | 0 => Nat.le_refl _
  | j + 1 => by
    rw [grM]
    split
    · exact Nat.le_succ_of_le gr_le
    · exact Nat.le_refl _
set_option maxHeartbeats 600000 in
set_option maxRecDepth 100000 in
theorem kX2_multiplies (K : KT) (bd : Nat → Nat) (M : MSt) (X : va_W) (z : Nat) (e : Int32) (a : Int64) (k : Nat) (b : Int64) (l : Nat) (sn : Int64) (hz : z < 10) (hkl : k + l ≤ 40) (hB : HB M) : ∀ lau : Launch, Con lau yX2_multiplies cX2_multiplies 11 (some .boolean) 3 76 K (mW K bd M X) (fun _ : Unit => mW K bd ((mMul M z e a k b l sn).2) X) [.ref (bd 0), .int (nI z), .int e, .long a, .int (nI k), .long b, .int (nI l), .long sn] (some (.int (bz (mMul M z e a k b l sn).1))) := by
  refine conZ (by decide) (Nat.le_of_ble_eq_true rfl) (fun E C hR => ?_)
  show G E K 0 0 (mW K bd M X) [(0, .ref (bd 0)), (1, .int (nI z)), (2, .int e), (3, .long a), (5, .int (nI k)), (6, .long b), (8, .int (nI l)), (9, .long sn)] 0 []
  refine g_iload_n (i := 2) C dX2_multiplies_0 rfl rfl ?_
  refine g_i2l (v := Int32.toInt64 e) C dX2_multiplies_1 rfl ?_
  refine g_ldc2 (v := (-6)) C dX2_multiplies_2 kc_X2_108 ?_
  refine g_ldc2 (v := 6) C dX2_multiplies_5 kc_X2_110 ?_
  refine g_callS (av := [.long (Int32.toInt64 e), .long (-6), .long 6]) C dX2_multiplies_8 ln_X2_32 mf_X2_in (kX2_in K (mW K bd M X) (Int32.toInt64 e) (-6) 6) rfl rfl (Nat.le_of_ble_eq_true rfl) ⟨Nat.le_of_ble_eq_true rfl, Nat.le_of_ble_eq_true rfl⟩ ⟨Nat.zero_le _, Nat.zero_le _⟩ (fun _ => ?_)
  refine g_bz_eq (tgt := 30) C dX2_multiplies_11 (by decide) (fun c11_1 => ?_) (fun c11_1 => ?_)
  · skip
    refine g_iconst (v := 0) C dX2_multiplies_30 (by decide) ?_
    exact hR _ _ _ _ () dX2_multiplies_31 (by rw [mMul, c11_1, cond_false] <;> rfl) (by show _ = mW K bd (mMul M z e a k b l sn).2 X; rw [mMul, c11_1, cond_false] <;> rfl)
  · skip
    refine g_aload_n (i := 0) C dX2_multiplies_14 rfl rfl ?_
    refine g_lload_n (i := 3) C dX2_multiplies_15 rfl rfl ?_
    refine g_lload C dX2_multiplies_16 rfl ?_
    refine g_lmul C dX2_multiplies_18 ?_
    refine g_iload C dX2_multiplies_19 rfl ?_
    refine g_iload C dX2_multiplies_21 rfl ?_
    refine g_iadd C dX2_multiplies_23 ?_
    refine g_eqi (nI_add k l) ?_
    refine g_callV (av := [.long (a * b), .int (nI (k + l))]) C dX2_multiplies_24 ln_X2_112 mf_X2_plain 0 rfl rfl (kX2_plain K bd M X (a * b) (k + l) (by omega)) rfl rfl (Nat.le_of_ble_eq_true rfl) ⟨Nat.le_of_ble_eq_true rfl, Nat.le_of_ble_eq_true rfl⟩ ⟨Nat.zero_le _, Nat.zero_le _⟩ (fun _ => ?_)
    refine g_bz_ne (tgt := 32) C dX2_multiplies_27 (by decide) (fun c27_2 => ?_) (fun c27_2 => ?_)
    · skip
      refine g_aload_n (i := 0) C dX2_multiplies_32 rfl rfl ?_
      refine g_iload_n (i := 1) C dX2_multiplies_33 rfl rfl ?_
      refine g_iload_n (i := 2) C dX2_multiplies_34 rfl rfl ?_
      refine g_lload C dX2_multiplies_35 rfl ?_
      refine g_aload_n (i := 0) C dX2_multiplies_37 rfl rfl ?_
      refine g_get C dX2_multiplies_38 fl_X2_96 0 rfl rfl ?_
      refine g_eql (show _ = (rdM (k + l) (a * b)).1 from rfl) ?_
      refine g_lmul C dX2_multiplies_41 ?_
      refine g_aload_n (i := 0) C dX2_multiplies_42 rfl rfl ?_
      refine g_get C dX2_multiplies_43 fl_X2_100 0 rfl rfl ?_
      refine g_eqi (show _ = nI (rdM (k + l) (a * b)).2 from rfl) ?_
      refine g_callV (av := [.int (nI z), .int e, .long (sn * ((rdM (k + l) (a * b)).1)), .int (nI ((rdM (k + l) (a * b)).2))]) C dX2_multiplies_46 ln_X2_115 mf_X2_puts 0 rfl rfl (kX2_puts K bd (mPl M (a * b) (k + l)) X z e (sn * ((rdM (k + l) (a * b)).1)) ((rdM (k + l) (a * b)).2) (by omega) (by have := pl_le (by omega) c27_2; omega) hB) rfl rfl (Nat.le_of_ble_eq_true rfl) ⟨Nat.le_of_ble_eq_true rfl, Nat.le_of_ble_eq_true rfl⟩ ⟨Nat.zero_le _, Nat.zero_le _⟩ (fun _ => ?_)
      exact hR _ _ _ _ () dX2_multiplies_49 (by rw [mMul, c11_1, cond_true, c27_2, cond_true] <;> rfl) (by show _ = mW K bd (mMul M z e a k b l sn).2 X; rw [mMul, c11_1, cond_true, c27_2, cond_true] <;> rfl)
    · skip
      refine g_iconst (v := 0) C dX2_multiplies_30 (by decide) ?_
      exact hR _ _ _ _ () dX2_multiplies_31 (by rw [mMul, c11_1, cond_true, c27_2, cond_false] <;> rfl) (by show _ = mW K bd (mMul M z e a k b l sn).2 X; rw [mMul, c11_1, cond_true, c27_2, cond_false] <;> rfl)

set_option maxHeartbeats 600000 in
set_option maxRecDepth 100000 in
theorem kX2_term (K : KT) (bd : Nat → Nat) (M : MSt) (X : va_W) (z : Int32) (e : Int32) (a : Int32) (k : Int32) : ∀ lau : Launch, Con lau yX2_term cX2_term 6 (some .int) 2 48 K (mW K bd M X) (fun _ : Unit => mW K bd ((mTerm M z e a k).2) X) [.ref (bd 0), .int z, .int e, .int a, .int k] (some (.int ((mTerm M z e a k).1))) := by
  refine conI (by decide) (Nat.le_of_ble_eq_true rfl) (fun E C hR => ?_)
  show G E K 0 0 (mW K bd M X) [(0, .ref (bd 0)), (1, .int z), (2, .int e), (3, .int a), (4, .int k)] 0 []
  refine g_iload_n (i := 1) C dX2_term_0 rfl rfl ?_
  refine g_callS (av := [.int z]) C dX2_term_1 ln_X2_119 mf_X2_isSum (kX2_isSum K (mW K bd M X) z) rfl rfl (Nat.le_of_ble_eq_true rfl) ⟨Nat.le_of_ble_eq_true rfl, Nat.le_of_ble_eq_true rfl⟩ ⟨Nat.zero_le _, Nat.zero_le _⟩ (fun _ => ?_)
  refine g_bz_eq (tgt := 48) C dX2_term_4 (by decide) (fun c4_1 => ?_) (fun c4_1 => ?_)
  · skip
    refine g_iconst (v := (-1)) C dX2_term_48 (by decide) ?_
    exact hR _ _ _ _ () dX2_term_49 (by rw [mTerm, c4_1, cond_false] <;> rfl) (by show _ = mW K bd (mTerm M z e a k).2 X; rw [mTerm, c4_1, cond_false] <;> rfl)
  · skip
    refine g_iload_n (i := 2) C dX2_term_7 rfl rfl ?_
    refine g_i2l (v := Int32.toInt64 e) C dX2_term_8 rfl ?_
    refine g_ldc2 (v := (-6)) C dX2_term_9 kc_X2_108 ?_
    refine g_ldc2 (v := 6) C dX2_term_12 kc_X2_110 ?_
    refine g_callS (av := [.long (Int32.toInt64 e), .long (-6), .long 6]) C dX2_term_15 ln_X2_32 mf_X2_in (kX2_in K (mW K bd M X) (Int32.toInt64 e) (-6) 6) rfl rfl (Nat.le_of_ble_eq_true rfl) ⟨Nat.le_of_ble_eq_true rfl, Nat.le_of_ble_eq_true rfl⟩ ⟨Nat.zero_le _, Nat.zero_le _⟩ (fun _ => ?_)
    refine g_bz_eq (tgt := 48) C dX2_term_18 (by decide) (fun c18_2 => ?_) (fun c18_2 => ?_)
    · skip
      refine g_iconst (v := (-1)) C dX2_term_48 (by decide) ?_
      exact hR _ _ _ _ () dX2_term_49 (by rw [mTerm, c4_1, cond_true, c18_2, cond_false] <;> rfl) (by show _ = mW K bd (mTerm M z e a k).2 X; rw [mTerm, c4_1, cond_true, c18_2, cond_false] <;> rfl)
    · skip
      refine g_iload_n (i := 3) C dX2_term_21 rfl rfl ?_
      refine g_i2l (v := Int32.toInt64 a) C dX2_term_22 rfl ?_
      refine g_ldc2 (v := (-1000000000)) C dX2_term_23 kc_X2_58 ?_
      refine g_ldc2 (v := 1000000000) C dX2_term_26 kc_X2_60 ?_
      refine g_callS (av := [.long (Int32.toInt64 a), .long (-1000000000), .long 1000000000]) C dX2_term_29 ln_X2_32 mf_X2_in (kX2_in K (mW K bd M X) (Int32.toInt64 a) (-1000000000) 1000000000) rfl rfl (Nat.le_of_ble_eq_true rfl) ⟨Nat.le_of_ble_eq_true rfl, Nat.le_of_ble_eq_true rfl⟩ ⟨Nat.zero_le _, Nat.zero_le _⟩ (fun _ => ?_)
      refine g_bz_eq (tgt := 48) C dX2_term_32 (by decide) (fun c32_3 => ?_) (fun c32_3 => ?_)
      · skip
        refine g_iconst (v := (-1)) C dX2_term_48 (by decide) ?_
        exact hR _ _ _ _ () dX2_term_49 (by rw [mTerm, c4_1, cond_true, c18_2, cond_true, c32_3, cond_false] <;> rfl) (by show _ = mW K bd (mTerm M z e a k).2 X; rw [mTerm, c4_1, cond_true, c18_2, cond_true, c32_3, cond_false] <;> rfl)
      · skip
        refine g_iload C dX2_term_35 rfl ?_
        refine g_i2l (v := Int32.toInt64 k) C dX2_term_37 rfl ?_
        refine g_lconst (v := 0) C dX2_term_38 (by decide) ?_
        refine g_ldc2 (v := 20) C dX2_term_39 kc_X2_62 ?_
        refine g_callS (av := [.long (Int32.toInt64 k), .long 0, .long 20]) C dX2_term_42 ln_X2_32 mf_X2_in (kX2_in K (mW K bd M X) (Int32.toInt64 k) 0 20) rfl rfl (Nat.le_of_ble_eq_true rfl) ⟨Nat.le_of_ble_eq_true rfl, Nat.le_of_ble_eq_true rfl⟩ ⟨Nat.zero_le _, Nat.zero_le _⟩ (fun _ => ?_)
        refine g_bz_ne (tgt := 50) C dX2_term_45 (by decide) (fun c45_4 => ?_) (fun c45_4 => ?_)
        · skip
          obtain ⟨kk, hkk, ekk⟩ := in20 c45_4
          obtain ⟨j, hj, ee, ej⟩ := e_slot c18_2
          have hzz := sm_lt c4_1
          refine g_aload_n (i := 0) C dX2_term_50 rfl rfl ?_
          refine g_iload_n (i := 3) C dX2_term_51 rfl rfl ?_
          refine g_i2l (v := Int32.toInt64 a) C dX2_term_52 rfl ?_
          refine g_iload C dX2_term_53 rfl ?_
          refine g_eqi ekk ?_
          refine g_callV (av := [.long (Int32.toInt64 a), .int (nI kk)]) C dX2_term_55 ln_X2_112 mf_X2_plain 0 rfl rfl (kX2_plain K bd M X (Int32.toInt64 a) kk (by omega)) rfl rfl (Nat.le_of_ble_eq_true rfl) ⟨Nat.le_of_ble_eq_true rfl, Nat.le_of_ble_eq_true rfl⟩ ⟨Nat.zero_le _, Nat.zero_le _⟩ (fun _ => ?_)
          refine g_istore (lv2 := [(0, .ref (bd 0)), (1, .int z), (2, .int e), (3, .int a), (4, .int k), (5, .int (bz (plM (Int32.toInt64 a) kk)))]) C dX2_term_58 (by decide) rfl ?_
          refine g_aload_n (i := 0) C dX2_term_60 rfl rfl ?_
          refine g_get C dX2_term_61 fl_X2_23 0 rfl rfl ?_
          refine g_iload_n (i := 1) C dX2_term_64 rfl rfl ?_
          refine g_eqi (sm_nI c4_1) ?_
          refine g_iload_n (i := 2) C dX2_term_65 rfl rfl ?_
          refine g_eqi ee ?_
          refine g_callS (av := [.int (nI z.toNatClampNeg), .int ((nI j) - 6)]) C dX2_term_66 ln_X2_105 mf_X2_place (kX2_place K (mW K bd (mPl M (Int32.toInt64 a) kk) X) (nI z.toNatClampNeg) ((nI j) - 6)) rfl rfl (Nat.le_of_ble_eq_true rfl) ⟨Nat.le_of_ble_eq_true rfl, Nat.le_of_ble_eq_true rfl⟩ ⟨Nat.zero_le _, Nat.zero_le _⟩ (fun _ => ?_)
          refine g_eqi (pl_nI z.toNatClampNeg j) ?_
          refine g_aload_n (i := 0) C dX2_term_69 rfl rfl ?_
          refine g_get C dX2_term_70 fl_X2_96 0 rfl rfl ?_
          refine g_eql (show _ = (rdM kk (Int32.toInt64 a)).1 from rfl) ?_
          refine g_last (Wd2 := mW K bd ((mPl M (Int32.toInt64 a) kk).1, (mPl M (Int32.toInt64 a) kk).2.1, (mPl M (Int32.toInt64 a) kk).2.2.1, (mPl M (Int32.toInt64 a) kk).2.2.2.1, vp_updL ((mPl M (Int32.toInt64 a) kk).2.2.2.2.1) (nI (13 * z.toNatClampNeg + j)).toNatClampNeg ((rdM kk (Int32.toInt64 a)).1), (mPl M (Int32.toInt64 a) kk).2.2.2.2.2.1, (mPl M (Int32.toInt64 a) kk).2.2.2.2.2.2.1, (mPl M (Int32.toInt64 a) kk).2.2.2.2.2.2.2.1, (mPl M (Int32.toInt64 a) kk).2.2.2.2.2.2.2.2.1, (mPl M (Int32.toInt64 a) kk).2.2.2.2.2.2.2.2.2) X) C dX2_term_73 3 rfl (vp_in_nI (by omega) (by decide)) rfl ?_
          refine g_aload_n (i := 0) C dX2_term_74 rfl rfl ?_
          refine g_get C dX2_term_75 fl_X2_27 0 rfl rfl ?_
          refine g_iload_n (i := 1) C dX2_term_78 rfl rfl ?_
          refine g_eqi (sm_nI c4_1) ?_
          refine g_iload_n (i := 2) C dX2_term_79 rfl rfl ?_
          refine g_eqi ee ?_
          refine g_callS (av := [.int (nI z.toNatClampNeg), .int ((nI j) - 6)]) C dX2_term_80 ln_X2_105 mf_X2_place (kX2_place K (mW K bd ((mPl M (Int32.toInt64 a) kk).1, (mPl M (Int32.toInt64 a) kk).2.1, (mPl M (Int32.toInt64 a) kk).2.2.1, (mPl M (Int32.toInt64 a) kk).2.2.2.1, vp_updL ((mPl M (Int32.toInt64 a) kk).2.2.2.2.1) (nI (13 * z.toNatClampNeg + j)).toNatClampNeg ((rdM kk (Int32.toInt64 a)).1), (mPl M (Int32.toInt64 a) kk).2.2.2.2.2.1, (mPl M (Int32.toInt64 a) kk).2.2.2.2.2.2.1, (mPl M (Int32.toInt64 a) kk).2.2.2.2.2.2.2.1, (mPl M (Int32.toInt64 a) kk).2.2.2.2.2.2.2.2.1, (mPl M (Int32.toInt64 a) kk).2.2.2.2.2.2.2.2.2) X) (nI z.toNatClampNeg) ((nI j) - 6)) rfl rfl (Nat.le_of_ble_eq_true rfl) ⟨Nat.le_of_ble_eq_true rfl, Nat.le_of_ble_eq_true rfl⟩ ⟨Nat.zero_le _, Nat.zero_le _⟩ (fun _ => ?_)
          refine g_eqi (pl_nI z.toNatClampNeg j) ?_
          refine g_aload_n (i := 0) C dX2_term_83 rfl rfl ?_
          refine g_get C dX2_term_84 fl_X2_96 0 rfl rfl ?_
          refine g_eql (show _ = (rdM kk (Int32.toInt64 a)).1 from rfl) ?_
          refine g_lconst (v := 0) C dX2_term_87 (by decide) ?_
          refine g_lcmp_ne (tgt := 96) C dX2_term_88 dX2_term_89 (by decide) (fun c88_5 => ?_) (fun c88_5 => ?_)
          · skip
            refine g_aload_n (i := 0) C dX2_term_96 rfl rfl ?_
            refine g_get C dX2_term_97 fl_X2_100 0 rfl rfl ?_
            refine g_iast (Wd2 := mW K bd ((mPl M (Int32.toInt64 a) kk).1, (mPl M (Int32.toInt64 a) kk).2.1, (mPl M (Int32.toInt64 a) kk).2.2.1, (mPl M (Int32.toInt64 a) kk).2.2.2.1, vp_updL ((mPl M (Int32.toInt64 a) kk).2.2.2.2.1) (nI (13 * z.toNatClampNeg + j)).toNatClampNeg ((rdM kk (Int32.toInt64 a)).1), upd ((mPl M (Int32.toInt64 a) kk).2.2.2.2.2.1) (nI (13 * z.toNatClampNeg + j)).toNatClampNeg ((mPl M (Int32.toInt64 a) kk).2.2.2.2.2.2.2.2.2), (mPl M (Int32.toInt64 a) kk).2.2.2.2.2.2.1, (mPl M (Int32.toInt64 a) kk).2.2.2.2.2.2.2.1, (mPl M (Int32.toInt64 a) kk).2.2.2.2.2.2.2.2.1, (mPl M (Int32.toInt64 a) kk).2.2.2.2.2.2.2.2.2) X) C dX2_term_100 4 rfl (vp_in_nI (by omega) (by decide)) rfl ?_
            refine g_aload_n (i := 0) C dX2_term_101 rfl rfl ?_
            refine g_iload_n (i := 1) C dX2_term_102 rfl rfl ?_
            refine g_eqi (sm_nI c4_1) ?_
            refine g_callV (av := [.int (nI z.toNatClampNeg)]) C dX2_term_103 ln_X2_122 mf_X2_terms 0 rfl rfl (kX2_terms K bd ((mPl M (Int32.toInt64 a) kk).1, (mPl M (Int32.toInt64 a) kk).2.1, (mPl M (Int32.toInt64 a) kk).2.2.1, (mPl M (Int32.toInt64 a) kk).2.2.2.1, vp_updL ((mPl M (Int32.toInt64 a) kk).2.2.2.2.1) (nI (13 * z.toNatClampNeg + j)).toNatClampNeg ((rdM kk (Int32.toInt64 a)).1), upd ((mPl M (Int32.toInt64 a) kk).2.2.2.2.2.1) (nI (13 * z.toNatClampNeg + j)).toNatClampNeg ((mPl M (Int32.toInt64 a) kk).2.2.2.2.2.2.2.2.2), (mPl M (Int32.toInt64 a) kk).2.2.2.2.2.2.1, (mPl M (Int32.toInt64 a) kk).2.2.2.2.2.2.2.1, (mPl M (Int32.toInt64 a) kk).2.2.2.2.2.2.2.2.1, (mPl M (Int32.toInt64 a) kk).2.2.2.2.2.2.2.2.2) X z.toNatClampNeg (Nat.lt_of_lt_of_le (sm_lt c4_1) (by decide))) rfl rfl (Nat.le_of_ble_eq_true rfl) ⟨Nat.le_of_ble_eq_true rfl, Nat.le_of_ble_eq_true rfl⟩ ⟨Nat.zero_le _, Nat.zero_le _⟩ (fun _ => ?_)
            exact hR _ _ _ _ () dX2_term_106 (by rw [mTerm, c4_1, cond_true, c18_2, cond_true, c32_3, cond_true, c45_4, cond_true, ej, ekk, nI_clamp (n := kk) (by omega), mT1, if_neg c88_5, nI_clamp (n := 13 * z.toNatClampNeg + j) (by omega)] <;> rfl) (by show _ = mW K bd (mTerm M z e a k).2 X; rw [mTerm, c4_1, cond_true, c18_2, cond_true, c32_3, cond_true, c45_4, cond_true, ej, ekk, nI_clamp (n := kk) (by omega), mT1, if_neg c88_5, nI_clamp (n := 13 * z.toNatClampNeg + j) (by omega)] <;> rfl)
          · skip
            refine g_iconst (v := 0) C dX2_term_92 (by decide) ?_
            refine g_goto (tgt := 100) C dX2_term_93 (by decide) ?_
            refine g_iast (Wd2 := mW K bd ((mPl M (Int32.toInt64 a) kk).1, (mPl M (Int32.toInt64 a) kk).2.1, (mPl M (Int32.toInt64 a) kk).2.2.1, (mPl M (Int32.toInt64 a) kk).2.2.2.1, vp_updL ((mPl M (Int32.toInt64 a) kk).2.2.2.2.1) (nI (13 * z.toNatClampNeg + j)).toNatClampNeg ((rdM kk (Int32.toInt64 a)).1), upd ((mPl M (Int32.toInt64 a) kk).2.2.2.2.2.1) (nI (13 * z.toNatClampNeg + j)).toNatClampNeg 0, (mPl M (Int32.toInt64 a) kk).2.2.2.2.2.2.1, (mPl M (Int32.toInt64 a) kk).2.2.2.2.2.2.2.1, (mPl M (Int32.toInt64 a) kk).2.2.2.2.2.2.2.2.1, (mPl M (Int32.toInt64 a) kk).2.2.2.2.2.2.2.2.2) X) C dX2_term_100 4 rfl (vp_in_nI (by omega) (by decide)) rfl ?_
            refine g_aload_n (i := 0) C dX2_term_101 rfl rfl ?_
            refine g_iload_n (i := 1) C dX2_term_102 rfl rfl ?_
            refine g_eqi (sm_nI c4_1) ?_
            refine g_callV (av := [.int (nI z.toNatClampNeg)]) C dX2_term_103 ln_X2_122 mf_X2_terms 0 rfl rfl (kX2_terms K bd ((mPl M (Int32.toInt64 a) kk).1, (mPl M (Int32.toInt64 a) kk).2.1, (mPl M (Int32.toInt64 a) kk).2.2.1, (mPl M (Int32.toInt64 a) kk).2.2.2.1, vp_updL ((mPl M (Int32.toInt64 a) kk).2.2.2.2.1) (nI (13 * z.toNatClampNeg + j)).toNatClampNeg ((rdM kk (Int32.toInt64 a)).1), upd ((mPl M (Int32.toInt64 a) kk).2.2.2.2.2.1) (nI (13 * z.toNatClampNeg + j)).toNatClampNeg 0, (mPl M (Int32.toInt64 a) kk).2.2.2.2.2.2.1, (mPl M (Int32.toInt64 a) kk).2.2.2.2.2.2.2.1, (mPl M (Int32.toInt64 a) kk).2.2.2.2.2.2.2.2.1, (mPl M (Int32.toInt64 a) kk).2.2.2.2.2.2.2.2.2) X z.toNatClampNeg (Nat.lt_of_lt_of_le (sm_lt c4_1) (by decide))) rfl rfl (Nat.le_of_ble_eq_true rfl) ⟨Nat.le_of_ble_eq_true rfl, Nat.le_of_ble_eq_true rfl⟩ ⟨Nat.zero_le _, Nat.zero_le _⟩ (fun _ => ?_)
            exact hR _ _ _ _ () dX2_term_106 (by rw [mTerm, c4_1, cond_true, c18_2, cond_true, c32_3, cond_true, c45_4, cond_true, ej, ekk, nI_clamp (n := kk) (by omega), mT1, if_pos c88_5, nI_clamp (n := 13 * z.toNatClampNeg + j) (by omega)] <;> rfl) (by show _ = mW K bd (mTerm M z e a k).2 X; rw [mTerm, c4_1, cond_true, c18_2, cond_true, c32_3, cond_true, c45_4, cond_true, ej, ekk, nI_clamp (n := kk) (by omega), mT1, if_pos c88_5, nI_clamp (n := 13 * z.toNatClampNeg + j) (by omega)] <;> rfl)
        · skip
          refine g_iconst (v := (-1)) C dX2_term_48 (by decide) ?_
          exact hR _ _ _ _ () dX2_term_49 (by rw [mTerm, c4_1, cond_true, c18_2, cond_true, c32_3, cond_true, c45_4, cond_false] <;> rfl) (by show _ = mW K bd (mTerm M z e a k).2 X; rw [mTerm, c4_1, cond_true, c18_2, cond_true, c32_3, cond_true, c45_4, cond_false] <;> rfl)

set_option maxHeartbeats 600000 in
set_option maxRecDepth 100000 in
theorem kX2_told (K : KT) (bd : Nat → Nat) (M : MSt) (X : va_W) (z : Int32) (i : Int32) (w : Int32) : ∀ lau : Launch, Con lau yX2_told cX2_told 7 (some .int) 2 45 K (mW K bd M X) (fun _ : Unit => mW K bd M X) [.ref (bd 0), .int z, .int i, .int w] (some (.int (mTold M z i w))) := by
  refine conI (by decide) (Nat.le_of_ble_eq_true rfl) (fun E C hR => ?_)
  show G E K 0 0 (mW K bd M X) [(0, .ref (bd 0)), (1, .int z), (2, .int i), (3, .int w)] 0 []
  refine g_iload_n (i := 1) C dX2_told_0 rfl rfl ?_
  refine g_callS (av := [.int z]) C dX2_told_1 ln_X2_119 mf_X2_isSum (kX2_isSum K (mW K bd M X) z) rfl rfl (Nat.le_of_ble_eq_true rfl) ⟨Nat.le_of_ble_eq_true rfl, Nat.le_of_ble_eq_true rfl⟩ ⟨Nat.zero_le _, Nat.zero_le _⟩ (fun _ => ?_)
  refine g_bz_eq (tgt := 23) C dX2_told_4 (by decide) (fun c4_1 => ?_) (fun c4_1 => ?_)
  · skip
    refine g_ldc (v := (-1000000001)) C dX2_told_23 kc_X2_126 ?_
    exact hR _ _ _ _ () dX2_told_25 (by rw [mTold, c4_1, cond_false] <;> rfl) (rfl)
  · skip
    refine g_iload_n (i := 2) C dX2_told_7 rfl rfl ?_
    refine g_if_lt (tgt := 23) C dX2_told_8 (by decide) (fun c8_2 => ?_) (fun c8_2 => ?_)
    · skip
      refine g_ldc (v := (-1000000001)) C dX2_told_23 kc_X2_126 ?_
      exact hR _ _ _ _ () dX2_told_25 (by rw [mTold, c4_1, cond_true, if_pos c8_2] <;> rfl) (rfl)
    · skip
      refine g_iload_n (i := 3) C dX2_told_11 rfl rfl ?_
      refine g_i2l (v := Int32.toInt64 w) C dX2_told_12 rfl ?_
      refine g_lconst (v := 0) C dX2_told_13 (by decide) ?_
      refine g_ldc2 (v := 2) C dX2_told_14 kc_X2_38 ?_
      refine g_callS (av := [.long (Int32.toInt64 w), .long 0, .long 2]) C dX2_told_17 ln_X2_32 mf_X2_in (kX2_in K (mW K bd M X) (Int32.toInt64 w) 0 2) rfl rfl (Nat.le_of_ble_eq_true rfl) ⟨Nat.le_of_ble_eq_true rfl, Nat.le_of_ble_eq_true rfl⟩ ⟨Nat.zero_le _, Nat.zero_le _⟩ (fun _ => ?_)
      refine g_bz_ne (tgt := 26) C dX2_told_20 (by decide) (fun c20_3 => ?_) (fun c20_3 => ?_)
      · skip
        refine g_iload_n (i := 2) C dX2_told_26 rfl rfl ?_
        refine g_istore (lv2 := [(0, .ref (bd 0)), (1, .int z), (2, .int i), (3, .int w), (4, .int i)]) C dX2_told_27 (by decide) rfl ?_
        refine g_bipush (v := 6) C dX2_told_29 (by decide) ?_
        refine g_istore (lv2 := [(0, .ref (bd 0)), (1, .int z), (2, .int i), (3, .int w), (4, .int i), (5, .int 6)]) C dX2_told_31 (by decide) rfl ?_
        have hzz := sm_lt c4_1
        have lo : ∀ (fuel : Nat) (j : Nat) (v a : Int32), j ≤ 13 → j < fuel → v = nI j - 7 → sltG (gMz M z.toNatClampNeg) j a = sltG (gMz M z.toNatClampNeg) 13 i → G E K 0 0 (mW K bd M X) [(0, .ref (bd 0)), (1, .int z), (2, .int i), (3, .int w), (4, .int a), (5, .int v)] 33 [] := by
          intro fuel
          induction fuel with
          | zero =>
            intro j v a hlo0 hlo1 hlo2 hlo3
            omega
          | succ fuel ihlo =>
            intro j v a hlo0 hlo1 hlo2 hlo3
            refine g_iload C dX2_told_33 rfl ?_
            refine g_bipush (v := (-6)) C dX2_told_35 (by decide) ?_
            refine g_icmp_lt (tgt := 107) C dX2_told_37 (by decide) (fun c37_4 => ?_) (fun c37_4 => ?_)
            · skip
              have ej : j = 0 := e_dnx (by rw [← hlo2]; exact c37_4) (by omega)
              subst ej
              refine g_ldc (v := (-1000000004)) C dX2_told_107 kc_X2_127 ?_
              exact hR _ _ _ _ () dX2_told_109 (by rw [mTold, c4_1, cond_true, if_neg c8_2, c20_3, cond_true, ← hlo3] <;> rfl) (rfl)
            · skip
              obtain ⟨j2, rfl⟩ := e_dn (j := j) (by rw [← hlo2]; exact c37_4) (by omega)
              rw [e_pred] at hlo2
              subst hlo2
              refine g_iload_n (i := 1) C dX2_told_40 rfl rfl ?_
              refine g_eqi (sm_nI c4_1) ?_
              refine g_iload C dX2_told_41 rfl ?_
              refine g_callS (av := [.int (nI z.toNatClampNeg), .int ((nI j2) - 6)]) C dX2_told_43 ln_X2_105 mf_X2_place (kX2_place K (mW K bd M X) (nI z.toNatClampNeg) ((nI j2) - 6)) rfl rfl (Nat.le_of_ble_eq_true rfl) ⟨Nat.le_of_ble_eq_true rfl, Nat.le_of_ble_eq_true rfl⟩ ⟨Nat.zero_le _, Nat.zero_le _⟩ (fun _ => ?_)
              refine g_eqi (pl_nI z.toNatClampNeg j2) ?_
              refine g_istore (lv2 := [(0, .ref (bd 0)), (1, .int z), (2, .int i), (3, .int w), (4, .int a), (5, .int ((nI j2) - 6)), (6, .int (nI (13 * z.toNatClampNeg + j2)))]) C dX2_told_46 (by decide) rfl ?_
              refine g_aload_n (i := 0) C dX2_told_48 rfl rfl ?_
              refine g_get C dX2_told_49 fl_X2_23 0 rfl rfl ?_
              refine g_iload C dX2_told_52 rfl ?_
              refine g_lald C dX2_told_54 3 rfl (vp_in_nI (by omega) (by decide)) ?_
              refine g_eql (congrArg M.2.2.2.2.1 (nI_clamp (by omega))) ?_
              refine g_lconst (v := 0) C dX2_told_55 (by decide) ?_
              refine g_lcmp_eq (tgt := 101) C dX2_told_56 dX2_told_57 (by decide) (fun c56_5 => ?_) (fun c56_5 => ?_)
              · skip
                refine g_iinc (v := nI j2 - 6 + Int32.ofInt (-1)) (lv2 := [(0, .ref (bd 0)), (1, .int z), (2, .int i), (3, .int w), (4, .int a), (5, .int (nI j2 - 6 + Int32.ofInt (-1))), (6, .int (nI (13 * z.toNatClampNeg + j2)))]) C dX2_told_101 rfl rfl (by decide) rfl ?_
                refine g_goto (tgt := 33) C dX2_told_104 (by decide) ?_
                exact g_lvs [0, 1, 2, 3, 4, 5] rfl (ihlo j2 _ _ (by omega) (by omega) (e_dec j2) (by rw [← hlo3, sltG, if_pos c56_5]))
              · skip
                refine g_iload C dX2_told_60 rfl ?_
                refine g_if_ne (tgt := 98) C dX2_told_62 (by decide) (fun c62_6 => ?_) (fun c62_6 => ?_)
                · skip
                  refine g_iinc (v := a + Int32.ofInt (-1)) (lv2 := [(0, .ref (bd 0)), (1, .int z), (2, .int i), (3, .int w), (4, .int (a + Int32.ofInt (-1))), (5, .int ((nI j2) - 6)), (6, .int (nI (13 * z.toNatClampNeg + j2)))]) C dX2_told_98 rfl rfl (by decide) rfl ?_
                  refine g_iinc (v := nI j2 - 6 + Int32.ofInt (-1)) (lv2 := [(0, .ref (bd 0)), (1, .int z), (2, .int i), (3, .int w), (4, .int (a + Int32.ofInt (-1))), (5, .int (nI j2 - 6 + Int32.ofInt (-1))), (6, .int (nI (13 * z.toNatClampNeg + j2)))]) C dX2_told_101 rfl rfl (by decide) rfl ?_
                  refine g_goto (tgt := 33) C dX2_told_104 (by decide) ?_
                  exact g_lvs [0, 1, 2, 3, 4, 5] rfl (ihlo j2 _ _ (by omega) (by omega) (e_dec j2) (by rw [← hlo3, sltG, if_neg c56_5, if_neg c62_6]))
                · skip
                  refine g_iload_n (i := 3) C dX2_told_65 rfl rfl ?_
                  refine g_if_ne (tgt := 74) C dX2_told_66 (by decide) (fun c66_7 => ?_) (fun c66_7 => ?_)
                  · skip
                    refine g_iload_n (i := 3) C dX2_told_74 rfl rfl ?_
                    refine g_iconst (v := 1) C dX2_told_75 (by decide) ?_
                    refine g_icmp_ne (tgt := 90) C dX2_told_76 (by decide) (fun c76_8 => ?_) (fun c76_8 => ?_)
                    · skip
                      refine g_aload_n (i := 0) C dX2_told_90 rfl rfl ?_
                      refine g_get C dX2_told_91 fl_X2_27 0 rfl rfl ?_
                      refine g_iload C dX2_told_94 rfl ?_
                      refine g_iald C dX2_told_96 4 rfl (vp_in_nI (by omega) (by decide)) ?_
                      refine g_eqi (congrArg M.2.2.2.2.2.1 (nI_clamp (by omega))) ?_
                      exact hR _ _ _ _ () dX2_told_97 (by rw [mTold, c4_1, cond_true, if_neg c8_2, c20_3, cond_true, ← hlo3, sltG, if_neg c56_5, if_pos c62_6]; show _ = if w = 0 then _ else _; rw [if_neg c66_7, if_neg c76_8] <;> rfl) (rfl)
                    · skip
                      refine g_aload_n (i := 0) C dX2_told_79 rfl rfl ?_
                      refine g_get C dX2_told_80 fl_X2_23 0 rfl rfl ?_
                      refine g_iload C dX2_told_83 rfl ?_
                      refine g_lald C dX2_told_85 3 rfl (vp_in_nI (by omega) (by decide)) ?_
                      refine g_eql (congrArg M.2.2.2.2.1 (nI_clamp (by omega))) ?_
                      refine g_l2i (v := Int64.toInt32 (M.2.2.2.2.1 (13 * z.toNatClampNeg + j2))) C dX2_told_86 rfl ?_
                      refine g_goto (tgt := 97) C dX2_told_87 (by decide) ?_
                      exact hR _ _ _ _ () dX2_told_97 (by rw [mTold, c4_1, cond_true, if_neg c8_2, c20_3, cond_true, ← hlo3, sltG, if_neg c56_5, if_pos c62_6]; show _ = if w = 0 then _ else _; rw [if_neg c66_7, if_pos c76_8] <;> rfl) (rfl)
                  · skip
                    refine g_iload C dX2_told_69 rfl ?_
                    refine g_goto (tgt := 97) C dX2_told_71 (by decide) ?_
                    exact hR _ _ _ _ () dX2_told_97 (by rw [mTold, c4_1, cond_true, if_neg c8_2, c20_3, cond_true, ← hlo3, sltG, if_neg c56_5, if_pos c62_6]; show _ = if w = 0 then _ else _; rw [if_pos c66_7] <;> rfl) (rfl)
        exact g_lvs [0, 1, 2, 3, 4, 5] rfl (lo 14 13 6 i (by omega) (by omega) rfl rfl)
      · skip
        refine g_ldc (v := (-1000000001)) C dX2_told_23 kc_X2_126 ?_
        exact hR _ _ _ _ () dX2_told_25 (by rw [mTold, c4_1, cond_true, if_neg c8_2, c20_3, cond_false] <;> rfl) (rfl)

set_option maxHeartbeats 600000 in
set_option maxRecDepth 100000 in
theorem kX2_adds (K : KT) (bd : Nat → Nat) (M : MSt) (X : va_W) (x : Nat) (y : Nat) (sn : Int64) (hx : x < 8) (hy : y < 8) (hB : HB M) : ∀ lau : Launch, Con lau yX2_adds cX2_adds 8 (some .boolean) 3 76 K (mW K bd M X) (fun _ : Unit => mW K bd ((mAdd M x y sn).2) X) [.ref (bd 0), .int (nI x), .int (nI y), .long sn] (some (.int (bz (mAdd M x y sn).1))) := by
  refine conZ (by decide) (Nat.le_of_ble_eq_true rfl) (fun E C hR => ?_)
  show G E K 0 0 (mW K bd M X) [(0, .ref (bd 0)), (1, .int (nI x)), (2, .int (nI y)), (3, .long sn)] 0 []
  refine g_aload_n (i := 0) C dX2_adds_0 rfl rfl ?_
  refine g_bipush (v := 9) C dX2_adds_1 (by decide) ?_
  refine g_iload_n (i := 1) C dX2_adds_3 rfl rfl ?_
  refine g_callV (av := [.int 9, .int (nI x)]) C dX2_adds_4 ln_X2_128 mf_X2_copies 0 rfl rfl (kX2_copiesF K bd M X 9 x (by decide) (by omega) (by omega)) rfl rfl (Nat.le_of_ble_eq_true rfl) ⟨Nat.le_of_ble_eq_true rfl, Nat.le_of_ble_eq_true rfl⟩ ⟨Nat.zero_le _, Nat.zero_le _⟩ (fun _ => ?_)
  refine g_iconst (v := 1) C dX2_adds_7 (by decide) ?_
  refine g_istore (lv2 := [(0, .ref (bd 0)), (1, .int (nI x)), (2, .int (nI y)), (3, .long sn), (5, .int 1)]) C dX2_adds_8 (by decide) rfl ?_
  refine g_bipush (v := 6) C dX2_adds_10 (by decide) ?_
  refine g_istore (lv2 := [(0, .ref (bd 0)), (1, .int (nI x)), (2, .int (nI y)), (3, .long sn), (5, .int 1), (6, .int 6)]) C dX2_adds_12 (by decide) rfl ?_
  have hB0 : HB (mCpF M 9 x) := HB_cpF hB (by omega)
  have lo : ∀ (fuel : Nat) (j : Nat) (v : Int32) (b : Bool) (N : MSt), j ≤ 13 → j < fuel → HB N → v = nI j - 7 → (bif b then adL y sn j N else (false, N)) = mAdd M x y sn → G E K 0 0 (mW K bd N X) [(0, .ref (bd 0)), (1, .int (nI x)), (2, .int (nI y)), (3, .long sn), (5, .int (bz b)), (6, .int v)] 14 [] := by
    intro fuel
    induction fuel with
    | zero =>
      intro j v b N hlo0 hlo1 hlo2 hlo3 hlo4
      omega
    | succ fuel ihlo =>
      intro j v b N hlo0 hlo1 hlo2 hlo3 hlo4
      refine g_iload C dX2_adds_14 rfl ?_
      refine g_bipush (v := (-6)) C dX2_adds_16 (by decide) ?_
      refine g_icmp_lt (tgt := 86) C dX2_adds_18 (by decide) (fun c18_1 => ?_) (fun c18_1 => ?_)
      · skip
        have ej : j = 0 := e_dnx (by rw [← hlo3]; exact c18_1) (by omega)
        subst ej
        refine g_iload C dX2_adds_86 rfl ?_
        exact hR _ _ _ _ () dX2_adds_88 (by rw [← hlo4] <;> cases b <;> rfl) (by show _ = mW K bd (mAdd M x y sn).2 X; rw [← hlo4] <;> cases b <;> rfl)
      · skip
        obtain ⟨j2, rfl⟩ := e_dn (j := j) (by rw [← hlo3]; exact c18_1) (by omega)
        rw [e_pred] at hlo3
        subst hlo3
        refine g_iload C dX2_adds_21 rfl ?_
        refine g_bz_eq (tgt := 86) C dX2_adds_23 (by decide) (fun c23_2 => ?_) (fun c23_2 => ?_)
        · skip
          refine g_iload C dX2_adds_86 rfl ?_
          exact hR _ _ _ _ () dX2_adds_88 (by rw [← hlo4, c23_2] <;> rfl) (by show _ = mW K bd (mAdd M x y sn).2 X; rw [← hlo4, c23_2] <;> rfl)
        · skip
          refine g_iload_n (i := 2) C dX2_adds_26 rfl rfl ?_
          refine g_iload C dX2_adds_27 rfl ?_
          refine g_callS (av := [.int (nI y), .int ((nI j2) - 6)]) C dX2_adds_29 ln_X2_105 mf_X2_place (kX2_place K (mW K bd N X) (nI y) ((nI j2) - 6)) rfl rfl (Nat.le_of_ble_eq_true rfl) ⟨Nat.le_of_ble_eq_true rfl, Nat.le_of_ble_eq_true rfl⟩ ⟨Nat.zero_le _, Nat.zero_le _⟩ (fun _ => ?_)
          refine g_eqi (pl_nI y j2) ?_
          refine g_istore (lv2 := [(0, .ref (bd 0)), (1, .int (nI x)), (2, .int (nI y)), (3, .long sn), (5, .int (bz b)), (6, .int ((nI j2) - 6)), (7, .int (nI (13 * y + j2)))]) C dX2_adds_32 (by decide) rfl ?_
          refine g_aload_n (i := 0) C dX2_adds_34 rfl rfl ?_
          refine g_get C dX2_adds_35 fl_X2_23 0 rfl rfl ?_
          refine g_iload C dX2_adds_38 rfl ?_
          refine g_lald C dX2_adds_40 3 rfl (vp_in_nI (by omega) (by decide)) ?_
          refine g_eql (congrArg N.2.2.2.2.1 (nI_clamp (by omega))) ?_
          refine g_lconst (v := 0) C dX2_adds_41 (by decide) ?_
          refine g_lcmp_eq (tgt := 73) C dX2_adds_42 dX2_adds_43 (by decide) (fun c42_3 => ?_) (fun c42_3 => ?_)
          · skip
            refine g_iconst (v := 1) C dX2_adds_73 (by decide) ?_
            refine g_goto (tgt := 78) C dX2_adds_74 (by decide) ?_
            refine g_istore (lv2 := [(0, .ref (bd 0)), (1, .int (nI x)), (2, .int (nI y)), (3, .long sn), (5, .int 1), (6, .int ((nI j2) - 6)), (7, .int (nI (13 * y + j2)))]) C dX2_adds_78 (by decide) rfl ?_
            refine g_iinc (v := nI j2 - 6 + Int32.ofInt (-1)) (lv2 := [(0, .ref (bd 0)), (1, .int (nI x)), (2, .int (nI y)), (3, .long sn), (5, .int 1), (6, .int (nI j2 - 6 + Int32.ofInt (-1))), (7, .int (nI (13 * y + j2)))]) C dX2_adds_80 rfl rfl (by decide) rfl ?_
            refine g_goto (tgt := 14) C dX2_adds_83 (by decide) ?_
            exact g_lvs [0, 1, 2, 3, 4, 5] rfl (ihlo j2 _ true _ (by omega) (by omega) hlo2 (e_dec j2) (by rw [← hlo4, c23_2, cond_true, adL, if_pos c42_3] <;> rfl))
          · skip
            refine g_aload_n (i := 0) C dX2_adds_46 rfl rfl ?_
            refine g_bipush (v := 9) C dX2_adds_47 (by decide) ?_
            refine g_iload C dX2_adds_49 rfl ?_
            refine g_lload_n (i := 3) C dX2_adds_51 rfl rfl ?_
            refine g_aload_n (i := 0) C dX2_adds_52 rfl rfl ?_
            refine g_get C dX2_adds_53 fl_X2_23 0 rfl rfl ?_
            refine g_iload C dX2_adds_56 rfl ?_
            refine g_lald C dX2_adds_58 3 rfl (vp_in_nI (by omega) (by decide)) ?_
            refine g_eql (congrArg N.2.2.2.2.1 (nI_clamp (by omega))) ?_
            refine g_lmul C dX2_adds_59 ?_
            refine g_aload_n (i := 0) C dX2_adds_60 rfl rfl ?_
            refine g_get C dX2_adds_61 fl_X2_27 0 rfl rfl ?_
            refine g_iload C dX2_adds_64 rfl ?_
            refine g_iald C dX2_adds_66 4 rfl (vp_in_nI (by omega) (by decide)) ?_
            refine g_eqi (congrArg N.2.2.2.2.2.1 (nI_clamp (by omega))) ?_
            refine g_eqi (HB.c hlo2 (i := 13 * y + j2) (by omega)) ?_
            refine g_callV (av := [.int 9, .int ((nI j2) - 6), .long (sn * (N.2.2.2.2.1 (13 * y + j2))), .int (nI (bN N (13 * y + j2)))]) C dX2_adds_67 ln_X2_115 mf_X2_puts 0 rfl rfl (kX2_puts K bd N X 9 ((nI j2) - 6) (sn * (N.2.2.2.2.1 (13 * y + j2))) (bN N (13 * y + j2)) (by decide) (HB.b40 hlo2 (i := 13 * y + j2) (by omega)) hlo2) rfl rfl (Nat.le_of_ble_eq_true rfl) ⟨Nat.le_of_ble_eq_true rfl, Nat.le_of_ble_eq_true rfl⟩ ⟨Nat.zero_le _, Nat.zero_le _⟩ (fun _ => ?_)
            refine g_bz_eq (tgt := 77) C dX2_adds_70 (by decide) (fun c70_4 => ?_) (fun c70_4 => ?_)
            · skip
              refine g_iconst (v := 0) C dX2_adds_77 (by decide) ?_
              refine g_istore (lv2 := [(0, .ref (bd 0)), (1, .int (nI x)), (2, .int (nI y)), (3, .long sn), (5, .int 0), (6, .int ((nI j2) - 6)), (7, .int (nI (13 * y + j2)))]) C dX2_adds_78 (by decide) rfl ?_
              refine g_iinc (v := nI j2 - 6 + Int32.ofInt (-1)) (lv2 := [(0, .ref (bd 0)), (1, .int (nI x)), (2, .int (nI y)), (3, .long sn), (5, .int 0), (6, .int (nI j2 - 6 + Int32.ofInt (-1))), (7, .int (nI (13 * y + j2)))]) C dX2_adds_80 rfl rfl (by decide) rfl ?_
              refine g_goto (tgt := 14) C dX2_adds_83 (by decide) ?_
              exact g_lvs [0, 1, 2, 3, 4, 5] rfl (ihlo j2 _ false _ (by omega) (by omega) (HB_put hlo2 (by decide) (HB.b40 hlo2 (i := 13 * y + j2) (by omega))) (e_dec j2) (by rw [← hlo4, c23_2, cond_true, adL, if_neg c42_3, c70_4, cond_false] <;> rfl))
            · skip
              refine g_iconst (v := 1) C dX2_adds_73 (by decide) ?_
              refine g_goto (tgt := 78) C dX2_adds_74 (by decide) ?_
              refine g_istore (lv2 := [(0, .ref (bd 0)), (1, .int (nI x)), (2, .int (nI y)), (3, .long sn), (5, .int 1), (6, .int ((nI j2) - 6)), (7, .int (nI (13 * y + j2)))]) C dX2_adds_78 (by decide) rfl ?_
              refine g_iinc (v := nI j2 - 6 + Int32.ofInt (-1)) (lv2 := [(0, .ref (bd 0)), (1, .int (nI x)), (2, .int (nI y)), (3, .long sn), (5, .int 1), (6, .int (nI j2 - 6 + Int32.ofInt (-1))), (7, .int (nI (13 * y + j2)))]) C dX2_adds_80 rfl rfl (by decide) rfl ?_
              refine g_goto (tgt := 14) C dX2_adds_83 (by decide) ?_
              exact g_lvs [0, 1, 2, 3, 4, 5] rfl (ihlo j2 _ true _ (by omega) (by omega) (HB_put hlo2 (by decide) (HB.b40 hlo2 (i := 13 * y + j2) (by omega))) (e_dec j2) (by rw [← hlo4, c23_2, cond_true, adL, if_neg c42_3, c70_4, cond_true] <;> rfl))
  exact g_lvs [0, 1, 2, 3, 4, 5] rfl (lo 14 13 6 true _ (by omega) (by omega) hB0 rfl rfl)

set_option maxHeartbeats 600000 in
set_option maxRecDepth 100000 in
theorem kX2_products (K : KT) (bd : Nat → Nat) (M : MSt) (X : va_W) (x : Nat) (y : Nat) (hx : x < 8) (hy : y < 8) (hB : HB M) : ∀ lau : Launch, Con lau yX2_products cX2_products 8 (some .boolean) 4 106 K (mW K bd M X) (fun _ : Unit => mW K bd ((mPro M x y).2) X) [.ref (bd 0), .int (nI x), .int (nI y)] (some (.int (bz (mPro M x y).1))) := by
  refine conZ (by decide) (Nat.le_of_ble_eq_true rfl) (fun E C hR => ?_)
  show G E K 0 0 (mW K bd M X) [(0, .ref (bd 0)), (1, .int (nI x)), (2, .int (nI y))] 0 []
  refine g_aload_n (i := 0) C dX2_products_0 rfl rfl ?_
  refine g_bipush (v := 9) C dX2_products_1 (by decide) ?_
  refine g_iconst (v := (-1)) C dX2_products_3 (by decide) ?_
  refine g_callV (av := [.int 9, .int (-1)]) C dX2_products_4 ln_X2_128 mf_X2_copies 0 rfl rfl (kX2_copiesN K bd M X 9 (by decide)) rfl rfl (Nat.le_of_ble_eq_true rfl) ⟨Nat.le_of_ble_eq_true rfl, Nat.le_of_ble_eq_true rfl⟩ ⟨Nat.zero_le _, Nat.zero_le _⟩ (fun _ => ?_)
  refine g_iconst (v := 1) C dX2_products_7 (by decide) ?_
  refine g_istore_n (i := 3) (lv2 := [(0, .ref (bd 0)), (1, .int (nI x)), (2, .int (nI y)), (3, .int 1)]) C dX2_products_8 rfl (by decide) rfl ?_
  refine g_bipush (v := 6) C dX2_products_9 (by decide) ?_
  refine g_istore (lv2 := [(0, .ref (bd 0)), (1, .int (nI x)), (2, .int (nI y)), (3, .int 1), (4, .int 6)]) C dX2_products_11 (by decide) rfl ?_
  have hB0 : HB (mCpN M 9) := HB_cpN hB
  have lo : ∀ (fuel : Nat) (j : Nat) (v : Int32) (b : Bool) (N : MSt), j ≤ 13 → j < fuel → HB N → v = nI j - 7 → prO x y j b N = mPro M x y → G E K 0 0 (mW K bd N X) [(0, .ref (bd 0)), (1, .int (nI x)), (2, .int (nI y)), (3, .int (bz b)), (4, .int v)] 13 [] := by
    intro fuel
    induction fuel with
    | zero =>
      intro j v b N hlo0 hlo1 hlo2 hlo3 hlo4
      omega
    | succ fuel ihlo =>
      intro j v b N hlo0 hlo1 hlo2 hlo3 hlo4
      refine g_iload C dX2_products_13 rfl ?_
      refine g_bipush (v := (-6)) C dX2_products_15 (by decide) ?_
      refine g_icmp_lt (tgt := 140) C dX2_products_17 (by decide) (fun c17_1 => ?_) (fun c17_1 => ?_)
      · skip
        have ej : j = 0 := e_dnx (by rw [← hlo3]; exact c17_1) (by omega)
        subst ej
        refine g_iload_n (i := 3) C dX2_products_140 rfl rfl ?_
        exact hR _ _ _ _ () dX2_products_141 (by rw [← hlo4] <;> rfl) (by show _ = mW K bd (mPro M x y).2 X; rw [← hlo4] <;> rfl)
      · skip
        obtain ⟨j2, rfl⟩ := e_dn (j := j) (by rw [← hlo3]; exact c17_1) (by omega)
        rw [e_pred] at hlo3
        subst hlo3
        refine g_bipush (v := 6) C dX2_products_20 (by decide) ?_
        refine g_istore (lv2 := [(0, .ref (bd 0)), (1, .int (nI x)), (2, .int (nI y)), (3, .int (bz b)), (4, .int ((nI j2) - 6)), (5, .int 6)]) C dX2_products_22 (by decide) rfl ?_
        have li : ∀ (fuel2 : Nat) (i : Nat) (u : Int32) (c : Bool) (P : MSt), i ≤ 13 → i < fuel2 → HB P → u = nI i - 7 → prI x y j2 i c P = prI x y j2 13 b N → G E K 0 0 (mW K bd P X) [(0, .ref (bd 0)), (1, .int (nI x)), (2, .int (nI y)), (3, .int (bz c)), (4, .int ((nI j2) - 6)), (5, .int u)] 24 [] := by
          intro fuel2
          induction fuel2 with
          | zero =>
            intro i u c P hli0 hli1 hli2 hli3 hli4
            omega
          | succ fuel2 ihli =>
            intro i u c P hli0 hli1 hli2 hli3 hli4
            refine g_iload C dX2_products_24 rfl ?_
            refine g_bipush (v := (-6)) C dX2_products_26 (by decide) ?_
            refine g_icmp_lt (tgt := 134) C dX2_products_28 (by decide) (fun c28_2 => ?_) (fun c28_2 => ?_)
            · skip
              have ei : i = 0 := e_dnx (by rw [← hli3]; exact c28_2) (by omega)
              subst ei
              have hin : prI x y j2 13 b N = (c, P) := hli4.symm
              refine g_iinc (v := nI j2 - 6 + Int32.ofInt (-1)) (lv2 := [(0, .ref (bd 0)), (1, .int (nI x)), (2, .int (nI y)), (3, .int (bz c)), (4, .int (nI j2 - 6 + Int32.ofInt (-1))), (5, .int u)]) C dX2_products_134 rfl rfl (by decide) rfl ?_
              refine g_goto (tgt := 13) C dX2_products_137 (by decide) ?_
              exact g_lvs [0, 1, 2, 3, 4] rfl (ihlo j2 _ _ _ (by omega) (by omega) hli2 (e_dec j2) (by rw [← hlo4, prO, hin]))
            · skip
              obtain ⟨i2, rfl⟩ := e_dn (j := i) (by rw [← hli3]; exact c28_2) (by omega)
              rw [e_pred] at hli3
              subst hli3
              refine g_aload_n (i := 0) C dX2_products_31 rfl rfl ?_
              refine g_get C dX2_products_32 fl_X2_23 0 rfl rfl ?_
              refine g_iload_n (i := 1) C dX2_products_35 rfl rfl ?_
              refine g_iload C dX2_products_36 rfl ?_
              refine g_callS (av := [.int (nI x), .int ((nI j2) - 6)]) C dX2_products_38 ln_X2_105 mf_X2_place (kX2_place K (mW K bd P X) (nI x) ((nI j2) - 6)) rfl rfl (Nat.le_of_ble_eq_true rfl) ⟨Nat.le_of_ble_eq_true rfl, Nat.le_of_ble_eq_true rfl⟩ ⟨Nat.zero_le _, Nat.zero_le _⟩ (fun _ => ?_)
              refine g_eqi (pl_nI x j2) ?_
              refine g_lald C dX2_products_41 3 rfl (vp_in_nI (by omega) (by decide)) ?_
              refine g_eql (congrArg P.2.2.2.2.1 (nI_clamp (by omega))) ?_
              refine g_lconst (v := 0) C dX2_products_42 (by decide) ?_
              refine g_lcmp_eq (tgt := 134) C dX2_products_43 dX2_products_44 (by decide) (fun c43_3 => ?_) (fun c43_3 => ?_)
              · skip
                have hin : prI x y j2 13 b N = (c, P) := by rw [← hli4, prI, if_pos c43_3]
                refine g_iinc (v := nI j2 - 6 + Int32.ofInt (-1)) (lv2 := [(0, .ref (bd 0)), (1, .int (nI x)), (2, .int (nI y)), (3, .int (bz c)), (4, .int (nI j2 - 6 + Int32.ofInt (-1))), (5, .int ((nI i2) - 6))]) C dX2_products_134 rfl rfl (by decide) rfl ?_
                refine g_goto (tgt := 13) C dX2_products_137 (by decide) ?_
                exact g_lvs [0, 1, 2, 3, 4] rfl (ihlo j2 _ _ _ (by omega) (by omega) hli2 (e_dec j2) (by rw [← hlo4, prO, hin]))
              · skip
                refine g_iload_n (i := 1) C dX2_products_47 rfl rfl ?_
                refine g_iload C dX2_products_48 rfl ?_
                refine g_callS (av := [.int (nI x), .int ((nI j2) - 6)]) C dX2_products_50 ln_X2_105 mf_X2_place (kX2_place K (mW K bd P X) (nI x) ((nI j2) - 6)) rfl rfl (Nat.le_of_ble_eq_true rfl) ⟨Nat.le_of_ble_eq_true rfl, Nat.le_of_ble_eq_true rfl⟩ ⟨Nat.zero_le _, Nat.zero_le _⟩ (fun _ => ?_)
                refine g_eqi (pl_nI x j2) ?_
                refine g_istore (lv2 := [(0, .ref (bd 0)), (1, .int (nI x)), (2, .int (nI y)), (3, .int (bz c)), (4, .int ((nI j2) - 6)), (5, .int ((nI i2) - 6)), (6, .int (nI (13 * x + j2)))]) C dX2_products_53 (by decide) rfl ?_
                refine g_iload_n (i := 2) C dX2_products_55 rfl rfl ?_
                refine g_iload C dX2_products_56 rfl ?_
                refine g_callS (av := [.int (nI y), .int ((nI i2) - 6)]) C dX2_products_58 ln_X2_105 mf_X2_place (kX2_place K (mW K bd P X) (nI y) ((nI i2) - 6)) rfl rfl (Nat.le_of_ble_eq_true rfl) ⟨Nat.le_of_ble_eq_true rfl, Nat.le_of_ble_eq_true rfl⟩ ⟨Nat.zero_le _, Nat.zero_le _⟩ (fun _ => ?_)
                refine g_eqi (pl_nI y i2) ?_
                refine g_istore (lv2 := [(0, .ref (bd 0)), (1, .int (nI x)), (2, .int (nI y)), (3, .int (bz c)), (4, .int ((nI j2) - 6)), (5, .int ((nI i2) - 6)), (6, .int (nI (13 * x + j2))), (7, .int (nI (13 * y + i2)))]) C dX2_products_61 (by decide) rfl ?_
                refine g_iload_n (i := 3) C dX2_products_63 rfl rfl ?_
                refine g_bz_eq (tgt := 126) C dX2_products_64 (by decide) (fun c64_4 => ?_) (fun c64_4 => ?_)
                · skip
                  refine g_iconst (v := 0) C dX2_products_126 (by decide) ?_
                  refine g_istore_n (i := 3) (lv2 := [(0, .ref (bd 0)), (1, .int (nI x)), (2, .int (nI y)), (3, .int 0), (4, .int ((nI j2) - 6)), (5, .int ((nI i2) - 6)), (6, .int (nI (13 * x + j2))), (7, .int (nI (13 * y + i2)))]) C dX2_products_127 rfl (by decide) rfl ?_
                  refine g_iinc (v := nI i2 - 6 + Int32.ofInt (-1)) (lv2 := [(0, .ref (bd 0)), (1, .int (nI x)), (2, .int (nI y)), (3, .int 0), (4, .int ((nI j2) - 6)), (5, .int (nI i2 - 6 + Int32.ofInt (-1))), (6, .int (nI (13 * x + j2))), (7, .int (nI (13 * y + i2)))]) C dX2_products_128 rfl rfl (by decide) rfl ?_
                  refine g_goto (tgt := 24) C dX2_products_131 (by decide) ?_
                  exact g_lvs [0, 1, 2, 3, 4, 5] rfl (ihli i2 _ false _ (by omega) (by omega) hli2 (e_dec i2) (by rw [← hli4, prI, if_neg c43_3, c64_4, cond_false]))
                · skip
                  refine g_aload_n (i := 0) C dX2_products_67 rfl rfl ?_
                  refine g_get C dX2_products_68 fl_X2_23 0 rfl rfl ?_
                  refine g_iload C dX2_products_71 rfl ?_
                  refine g_lald C dX2_products_73 3 rfl (vp_in_nI (by omega) (by decide)) ?_
                  refine g_eql (congrArg P.2.2.2.2.1 (nI_clamp (by omega))) ?_
                  refine g_lconst (v := 0) C dX2_products_74 (by decide) ?_
                  refine g_lcmp_eq (tgt := 122) C dX2_products_75 dX2_products_76 (by decide) (fun c75_5 => ?_) (fun c75_5 => ?_)
                  · skip
                    refine g_iconst (v := 1) C dX2_products_122 (by decide) ?_
                    refine g_goto (tgt := 127) C dX2_products_123 (by decide) ?_
                    refine g_istore_n (i := 3) (lv2 := [(0, .ref (bd 0)), (1, .int (nI x)), (2, .int (nI y)), (3, .int 1), (4, .int ((nI j2) - 6)), (5, .int ((nI i2) - 6)), (6, .int (nI (13 * x + j2))), (7, .int (nI (13 * y + i2)))]) C dX2_products_127 rfl (by decide) rfl ?_
                    refine g_iinc (v := nI i2 - 6 + Int32.ofInt (-1)) (lv2 := [(0, .ref (bd 0)), (1, .int (nI x)), (2, .int (nI y)), (3, .int 1), (4, .int ((nI j2) - 6)), (5, .int (nI i2 - 6 + Int32.ofInt (-1))), (6, .int (nI (13 * x + j2))), (7, .int (nI (13 * y + i2)))]) C dX2_products_128 rfl rfl (by decide) rfl ?_
                    refine g_goto (tgt := 24) C dX2_products_131 (by decide) ?_
                    exact g_lvs [0, 1, 2, 3, 4, 5] rfl (ihli i2 _ true _ (by omega) (by omega) hli2 (e_dec i2) (by rw [← hli4, prI, if_neg c43_3, c64_4, cond_true, if_pos c75_5]))
                  · skip
                    refine g_aload_n (i := 0) C dX2_products_79 rfl rfl ?_
                    refine g_bipush (v := 9) C dX2_products_80 (by decide) ?_
                    refine g_iload C dX2_products_82 rfl ?_
                    refine g_iload C dX2_products_84 rfl ?_
                    refine g_iadd C dX2_products_86 ?_
                    refine g_aload_n (i := 0) C dX2_products_87 rfl rfl ?_
                    refine g_get C dX2_products_88 fl_X2_23 0 rfl rfl ?_
                    refine g_iload C dX2_products_91 rfl ?_
                    refine g_lald C dX2_products_93 3 rfl (vp_in_nI (by omega) (by decide)) ?_
                    refine g_eql (congrArg P.2.2.2.2.1 (nI_clamp (by omega))) ?_
                    refine g_aload_n (i := 0) C dX2_products_94 rfl rfl ?_
                    refine g_get C dX2_products_95 fl_X2_27 0 rfl rfl ?_
                    refine g_iload C dX2_products_98 rfl ?_
                    refine g_iald C dX2_products_100 4 rfl (vp_in_nI (by omega) (by decide)) ?_
                    refine g_eqi (congrArg P.2.2.2.2.2.1 (nI_clamp (by omega))) ?_
                    refine g_eqi (HB.c hli2 (i := 13 * x + j2) (by omega)) ?_
                    refine g_aload_n (i := 0) C dX2_products_101 rfl rfl ?_
                    refine g_get C dX2_products_102 fl_X2_23 0 rfl rfl ?_
                    refine g_iload C dX2_products_105 rfl ?_
                    refine g_lald C dX2_products_107 3 rfl (vp_in_nI (by omega) (by decide)) ?_
                    refine g_eql (congrArg P.2.2.2.2.1 (nI_clamp (by omega))) ?_
                    refine g_aload_n (i := 0) C dX2_products_108 rfl rfl ?_
                    refine g_get C dX2_products_109 fl_X2_27 0 rfl rfl ?_
                    refine g_iload C dX2_products_112 rfl ?_
                    refine g_iald C dX2_products_114 4 rfl (vp_in_nI (by omega) (by decide)) ?_
                    refine g_eqi (congrArg P.2.2.2.2.2.1 (nI_clamp (by omega))) ?_
                    refine g_eqi (HB.c hli2 (i := 13 * y + i2) (by omega)) ?_
                    refine g_lconst (v := 1) C dX2_products_115 (by decide) ?_
                    refine g_callV (av := [.int 9, .int (((nI j2) - 6) + ((nI i2) - 6)), .long (P.2.2.2.2.1 (13 * x + j2)), .int (nI (bN P (13 * x + j2))), .long (P.2.2.2.2.1 (13 * y + i2)), .int (nI (bN P (13 * y + i2))), .long 1]) C dX2_products_116 ln_X2_132 mf_X2_multiplies 0 rfl rfl (kX2_multiplies K bd P X 9 (((nI j2) - 6) + ((nI i2) - 6)) (P.2.2.2.2.1 (13 * x + j2)) (bN P (13 * x + j2)) (P.2.2.2.2.1 (13 * y + i2)) (bN P (13 * y + i2)) 1 (by decide) (HB.b2 hli2 (i := 13 * x + j2) (j := 13 * y + i2) (by omega) (by omega)) hli2) rfl rfl (Nat.le_of_ble_eq_true rfl) ⟨Nat.le_of_ble_eq_true rfl, Nat.le_of_ble_eq_true rfl⟩ ⟨Nat.zero_le _, Nat.zero_le _⟩ (fun _ => ?_)
                    refine g_bz_eq (tgt := 126) C dX2_products_119 (by decide) (fun c119_6 => ?_) (fun c119_6 => ?_)
                    · skip
                      refine g_iconst (v := 0) C dX2_products_126 (by decide) ?_
                      refine g_istore_n (i := 3) (lv2 := [(0, .ref (bd 0)), (1, .int (nI x)), (2, .int (nI y)), (3, .int 0), (4, .int ((nI j2) - 6)), (5, .int ((nI i2) - 6)), (6, .int (nI (13 * x + j2))), (7, .int (nI (13 * y + i2)))]) C dX2_products_127 rfl (by decide) rfl ?_
                      refine g_iinc (v := nI i2 - 6 + Int32.ofInt (-1)) (lv2 := [(0, .ref (bd 0)), (1, .int (nI x)), (2, .int (nI y)), (3, .int 0), (4, .int ((nI j2) - 6)), (5, .int (nI i2 - 6 + Int32.ofInt (-1))), (6, .int (nI (13 * x + j2))), (7, .int (nI (13 * y + i2)))]) C dX2_products_128 rfl rfl (by decide) rfl ?_
                      refine g_goto (tgt := 24) C dX2_products_131 (by decide) ?_
                      exact g_lvs [0, 1, 2, 3, 4, 5] rfl (ihli i2 _ false _ (by omega) (by omega) (HB_mul hli2 (by decide) (HB.b2 hli2 (i := 13 * x + j2) (j := 13 * y + i2) (by omega) (by omega))) (e_dec i2) (by rw [← hli4, prI, if_neg c43_3, c64_4, cond_true, if_neg c75_5, c119_6]))
                    · skip
                      refine g_iconst (v := 1) C dX2_products_122 (by decide) ?_
                      refine g_goto (tgt := 127) C dX2_products_123 (by decide) ?_
                      refine g_istore_n (i := 3) (lv2 := [(0, .ref (bd 0)), (1, .int (nI x)), (2, .int (nI y)), (3, .int 1), (4, .int ((nI j2) - 6)), (5, .int ((nI i2) - 6)), (6, .int (nI (13 * x + j2))), (7, .int (nI (13 * y + i2)))]) C dX2_products_127 rfl (by decide) rfl ?_
                      refine g_iinc (v := nI i2 - 6 + Int32.ofInt (-1)) (lv2 := [(0, .ref (bd 0)), (1, .int (nI x)), (2, .int (nI y)), (3, .int 1), (4, .int ((nI j2) - 6)), (5, .int (nI i2 - 6 + Int32.ofInt (-1))), (6, .int (nI (13 * x + j2))), (7, .int (nI (13 * y + i2)))]) C dX2_products_128 rfl rfl (by decide) rfl ?_
                      refine g_goto (tgt := 24) C dX2_products_131 (by decide) ?_
                      exact g_lvs [0, 1, 2, 3, 4, 5] rfl (ihli i2 _ true _ (by omega) (by omega) (HB_mul hli2 (by decide) (HB.b2 hli2 (i := 13 * x + j2) (j := 13 * y + i2) (by omega) (by omega))) (e_dec i2) (by rw [← hli4, prI, if_neg c43_3, c64_4, cond_true, if_neg c75_5, c119_6]))
        exact g_lvs [0, 1, 2, 3, 4, 5] rfl (li 14 13 6 b _ (by omega) (by omega) hlo2 rfl rfl)
  exact g_lvs [0, 1, 2, 3, 4] rfl (lo 14 13 6 true _ (by omega) (by omega) hB0 rfl rfl)

set_option maxHeartbeats 600000 in
set_option maxRecDepth 100000 in
theorem kX2_sum (K : KT) (bd : Nat → Nat) (M : MSt) (X : va_W) (z : Int32) (how : Int32) (x : Int32) (y : Int32) (hB : HB M) : ∀ lau : Launch, Con lau yX2_sum cX2_sum 6 (some .int) 5 133 K (mW K bd M X) (fun _ : Unit => mW K bd ((mSum M z how x y).2) X) [.ref (bd 0), .int z, .int how, .int x, .int y] (some (.int ((mSum M z how x y).1))) := by
  refine conI (by decide) (Nat.le_of_ble_eq_true rfl) (fun E C hR => ?_)
  show G E K 0 0 (mW K bd M X) [(0, .ref (bd 0)), (1, .int z), (2, .int how), (3, .int x), (4, .int y)] 0 []
  refine g_iload_n (i := 1) C dX2_sum_0 rfl rfl ?_
  refine g_callS (av := [.int z]) C dX2_sum_1 ln_X2_119 mf_X2_isSum (kX2_isSum K (mW K bd M X) z) rfl rfl (Nat.le_of_ble_eq_true rfl) ⟨Nat.le_of_ble_eq_true rfl, Nat.le_of_ble_eq_true rfl⟩ ⟨Nat.zero_le _, Nat.zero_le _⟩ (fun _ => ?_)
  refine g_bz_eq (tgt := 34) C dX2_sum_4 (by decide) (fun c4_1 => ?_) (fun c4_1 => ?_)
  · skip
    refine g_iconst (v := (-1)) C dX2_sum_34 (by decide) ?_
    exact hR _ _ _ _ () dX2_sum_35 (by rw [mSum, c4_1, cond_false] <;> rfl) (by show _ = mW K bd (mSum M z how x y).2 X; rw [mSum, c4_1, cond_false] <;> rfl)
  · skip
    refine g_iload_n (i := 2) C dX2_sum_7 rfl rfl ?_
    refine g_i2l (v := Int32.toInt64 how) C dX2_sum_8 rfl ?_
    refine g_lconst (v := 0) C dX2_sum_9 (by decide) ?_
    refine g_ldc2 (v := 2) C dX2_sum_10 kc_X2_38 ?_
    refine g_callS (av := [.long (Int32.toInt64 how), .long 0, .long 2]) C dX2_sum_13 ln_X2_32 mf_X2_in (kX2_in K (mW K bd M X) (Int32.toInt64 how) 0 2) rfl rfl (Nat.le_of_ble_eq_true rfl) ⟨Nat.le_of_ble_eq_true rfl, Nat.le_of_ble_eq_true rfl⟩ ⟨Nat.zero_le _, Nat.zero_le _⟩ (fun _ => ?_)
    refine g_bz_eq (tgt := 34) C dX2_sum_16 (by decide) (fun c16_2 => ?_) (fun c16_2 => ?_)
    · skip
      refine g_iconst (v := (-1)) C dX2_sum_34 (by decide) ?_
      exact hR _ _ _ _ () dX2_sum_35 (by rw [mSum, c4_1, cond_true, c16_2, cond_false] <;> rfl) (by show _ = mW K bd (mSum M z how x y).2 X; rw [mSum, c4_1, cond_true, c16_2, cond_false] <;> rfl)
    · skip
      refine g_iload_n (i := 3) C dX2_sum_19 rfl rfl ?_
      refine g_callS (av := [.int x]) C dX2_sum_20 ln_X2_119 mf_X2_isSum (kX2_isSum K (mW K bd M X) x) rfl rfl (Nat.le_of_ble_eq_true rfl) ⟨Nat.le_of_ble_eq_true rfl, Nat.le_of_ble_eq_true rfl⟩ ⟨Nat.zero_le _, Nat.zero_le _⟩ (fun _ => ?_)
      refine g_bz_eq (tgt := 34) C dX2_sum_23 (by decide) (fun c23_3 => ?_) (fun c23_3 => ?_)
      · skip
        refine g_iconst (v := (-1)) C dX2_sum_34 (by decide) ?_
        exact hR _ _ _ _ () dX2_sum_35 (by rw [mSum, c4_1, cond_true, c16_2, cond_true, c23_3, cond_false] <;> rfl) (by show _ = mW K bd (mSum M z how x y).2 X; rw [mSum, c4_1, cond_true, c16_2, cond_true, c23_3, cond_false] <;> rfl)
      · skip
        refine g_iload C dX2_sum_26 rfl ?_
        refine g_callS (av := [.int y]) C dX2_sum_28 ln_X2_119 mf_X2_isSum (kX2_isSum K (mW K bd M X) y) rfl rfl (Nat.le_of_ble_eq_true rfl) ⟨Nat.le_of_ble_eq_true rfl, Nat.le_of_ble_eq_true rfl⟩ ⟨Nat.zero_le _, Nat.zero_le _⟩ (fun _ => ?_)
        refine g_bz_ne (tgt := 36) C dX2_sum_31 (by decide) (fun c31_4 => ?_) (fun c31_4 => ?_)
        · skip
          refine g_iload_n (i := 2) C dX2_sum_36 rfl rfl ?_
          refine g_iconst (v := 2) C dX2_sum_37 (by decide) ?_
          refine g_icmp_ne (tgt := 51) C dX2_sum_38 (by decide) (fun c38_5 => ?_) (fun c38_5 => ?_)
          · skip
            refine g_aload_n (i := 0) C dX2_sum_51 rfl rfl ?_
            refine g_iload_n (i := 3) C dX2_sum_52 rfl rfl ?_
            refine g_eqi (sm_nI c23_3) ?_
            refine g_iload C dX2_sum_53 rfl ?_
            refine g_eqi (sm_nI c31_4) ?_
            refine g_iload_n (i := 2) C dX2_sum_55 rfl rfl ?_
            refine g_if_ne (tgt := 63) C dX2_sum_56 (by decide) (fun c56_6 => ?_) (fun c56_6 => ?_)
            · skip
              refine g_ldc2 (v := (-1)) C dX2_sum_63 kc_X2_140 ?_
              refine g_callV (av := [.int (nI x.toNatClampNeg), .int (nI y.toNatClampNeg), .long (-1)]) C dX2_sum_66 ln_X2_142 mf_X2_adds 0 rfl rfl (kX2_adds K bd M X x.toNatClampNeg y.toNatClampNeg (-1) (sm_lt c23_3) (sm_lt c31_4) hB) rfl rfl (Nat.le_of_ble_eq_true rfl) ⟨Nat.le_of_ble_eq_true rfl, Nat.le_of_ble_eq_true rfl⟩ ⟨Nat.zero_le _, Nat.zero_le _⟩ (fun _ => ?_)
              refine g_istore (lv2 := [(0, .ref (bd 0)), (1, .int z), (2, .int how), (3, .int x), (4, .int y), (5, .int (bz (mAdd M x.toNatClampNeg y.toNatClampNeg (-1)).1))]) C dX2_sum_69 (by decide) rfl ?_
              refine g_iload C dX2_sum_71 rfl ?_
              refine g_bz_ne (tgt := 79) C dX2_sum_73 (by decide) (fun c73_7 => ?_) (fun c73_7 => ?_)
              · skip
                refine g_aload_n (i := 0) C dX2_sum_79 rfl rfl ?_
                refine g_iload_n (i := 1) C dX2_sum_80 rfl rfl ?_
                refine g_eqi (sm_nI c4_1) ?_
                refine g_bipush (v := 9) C dX2_sum_81 (by decide) ?_
                refine g_callV (av := [.int (nI z.toNatClampNeg), .int 9]) C dX2_sum_83 ln_X2_128 mf_X2_copies 0 rfl rfl (kX2_copiesF K bd ((mAdd M x.toNatClampNeg y.toNatClampNeg (-1)).2) X z.toNatClampNeg 9 (Nat.lt_of_lt_of_le (sm_lt c4_1) (by decide)) (by decide) (Ne.symm (isSm_n9 c4_1))) rfl rfl (Nat.le_of_ble_eq_true rfl) ⟨Nat.le_of_ble_eq_true rfl, Nat.le_of_ble_eq_true rfl⟩ ⟨Nat.zero_le _, Nat.zero_le _⟩ (fun _ => ?_)
                refine g_aload_n (i := 0) C dX2_sum_86 rfl rfl ?_
                refine g_iload_n (i := 1) C dX2_sum_87 rfl rfl ?_
                refine g_eqi (sm_nI c4_1) ?_
                refine g_callV (av := [.int (nI z.toNatClampNeg)]) C dX2_sum_88 ln_X2_122 mf_X2_terms 0 rfl rfl (kX2_terms K bd (mCpF ((mAdd M x.toNatClampNeg y.toNatClampNeg (-1)).2) z.toNatClampNeg 9) X z.toNatClampNeg (Nat.lt_of_lt_of_le (sm_lt c4_1) (by decide))) rfl rfl (Nat.le_of_ble_eq_true rfl) ⟨Nat.le_of_ble_eq_true rfl, Nat.le_of_ble_eq_true rfl⟩ ⟨Nat.zero_le _, Nat.zero_le _⟩ (fun _ => ?_)
                exact hR _ _ _ _ () dX2_sum_91 (by rw [mSum, c4_1, cond_true, c16_2, cond_true, c23_3, cond_true, c31_4, cond_true, if_neg c38_5, if_neg c56_6, mSE, c73_7, cond_true] <;> rfl) (by show _ = mW K bd (mSum M z how x y).2 X; rw [mSum, c4_1, cond_true, c16_2, cond_true, c23_3, cond_true, c31_4, cond_true, if_neg c38_5, if_neg c56_6, mSE, c73_7, cond_true] <;> rfl)
              · skip
                refine g_bipush (v := (-5)) C dX2_sum_76 (by decide) ?_
                exact hR _ _ _ _ () dX2_sum_78 (by rw [mSum, c4_1, cond_true, c16_2, cond_true, c23_3, cond_true, c31_4, cond_true, if_neg c38_5, if_neg c56_6, mSE, c73_7, cond_false] <;> rfl) (by show _ = mW K bd (mSum M z how x y).2 X; rw [mSum, c4_1, cond_true, c16_2, cond_true, c23_3, cond_true, c31_4, cond_true, if_neg c38_5, if_neg c56_6, mSE, c73_7, cond_false] <;> rfl)
            · skip
              refine g_lconst (v := 1) C dX2_sum_59 (by decide) ?_
              refine g_goto (tgt := 66) C dX2_sum_60 (by decide) ?_
              refine g_callV (av := [.int (nI x.toNatClampNeg), .int (nI y.toNatClampNeg), .long 1]) C dX2_sum_66 ln_X2_142 mf_X2_adds 0 rfl rfl (kX2_adds K bd M X x.toNatClampNeg y.toNatClampNeg 1 (sm_lt c23_3) (sm_lt c31_4) hB) rfl rfl (Nat.le_of_ble_eq_true rfl) ⟨Nat.le_of_ble_eq_true rfl, Nat.le_of_ble_eq_true rfl⟩ ⟨Nat.zero_le _, Nat.zero_le _⟩ (fun _ => ?_)
              refine g_istore (lv2 := [(0, .ref (bd 0)), (1, .int z), (2, .int how), (3, .int x), (4, .int y), (5, .int (bz (mAdd M x.toNatClampNeg y.toNatClampNeg 1).1))]) C dX2_sum_69 (by decide) rfl ?_
              refine g_iload C dX2_sum_71 rfl ?_
              refine g_bz_ne (tgt := 79) C dX2_sum_73 (by decide) (fun c73_8 => ?_) (fun c73_8 => ?_)
              · skip
                refine g_aload_n (i := 0) C dX2_sum_79 rfl rfl ?_
                refine g_iload_n (i := 1) C dX2_sum_80 rfl rfl ?_
                refine g_eqi (sm_nI c4_1) ?_
                refine g_bipush (v := 9) C dX2_sum_81 (by decide) ?_
                refine g_callV (av := [.int (nI z.toNatClampNeg), .int 9]) C dX2_sum_83 ln_X2_128 mf_X2_copies 0 rfl rfl (kX2_copiesF K bd ((mAdd M x.toNatClampNeg y.toNatClampNeg 1).2) X z.toNatClampNeg 9 (Nat.lt_of_lt_of_le (sm_lt c4_1) (by decide)) (by decide) (Ne.symm (isSm_n9 c4_1))) rfl rfl (Nat.le_of_ble_eq_true rfl) ⟨Nat.le_of_ble_eq_true rfl, Nat.le_of_ble_eq_true rfl⟩ ⟨Nat.zero_le _, Nat.zero_le _⟩ (fun _ => ?_)
                refine g_aload_n (i := 0) C dX2_sum_86 rfl rfl ?_
                refine g_iload_n (i := 1) C dX2_sum_87 rfl rfl ?_
                refine g_eqi (sm_nI c4_1) ?_
                refine g_callV (av := [.int (nI z.toNatClampNeg)]) C dX2_sum_88 ln_X2_122 mf_X2_terms 0 rfl rfl (kX2_terms K bd (mCpF ((mAdd M x.toNatClampNeg y.toNatClampNeg 1).2) z.toNatClampNeg 9) X z.toNatClampNeg (Nat.lt_of_lt_of_le (sm_lt c4_1) (by decide))) rfl rfl (Nat.le_of_ble_eq_true rfl) ⟨Nat.le_of_ble_eq_true rfl, Nat.le_of_ble_eq_true rfl⟩ ⟨Nat.zero_le _, Nat.zero_le _⟩ (fun _ => ?_)
                exact hR _ _ _ _ () dX2_sum_91 (by rw [mSum, c4_1, cond_true, c16_2, cond_true, c23_3, cond_true, c31_4, cond_true, if_neg c38_5, if_pos c56_6, mSE, c73_8, cond_true] <;> rfl) (by show _ = mW K bd (mSum M z how x y).2 X; rw [mSum, c4_1, cond_true, c16_2, cond_true, c23_3, cond_true, c31_4, cond_true, if_neg c38_5, if_pos c56_6, mSE, c73_8, cond_true] <;> rfl)
              · skip
                refine g_bipush (v := (-5)) C dX2_sum_76 (by decide) ?_
                exact hR _ _ _ _ () dX2_sum_78 (by rw [mSum, c4_1, cond_true, c16_2, cond_true, c23_3, cond_true, c31_4, cond_true, if_neg c38_5, if_pos c56_6, mSE, c73_8, cond_false] <;> rfl) (by show _ = mW K bd (mSum M z how x y).2 X; rw [mSum, c4_1, cond_true, c16_2, cond_true, c23_3, cond_true, c31_4, cond_true, if_neg c38_5, if_pos c56_6, mSE, c73_8, cond_false] <;> rfl)
          · skip
            refine g_aload_n (i := 0) C dX2_sum_41 rfl rfl ?_
            refine g_iload_n (i := 3) C dX2_sum_42 rfl rfl ?_
            refine g_eqi (sm_nI c23_3) ?_
            refine g_iload C dX2_sum_43 rfl ?_
            refine g_eqi (sm_nI c31_4) ?_
            refine g_callV (av := [.int (nI x.toNatClampNeg), .int (nI y.toNatClampNeg)]) C dX2_sum_45 ln_X2_136 mf_X2_products 0 rfl rfl (kX2_products K bd M X x.toNatClampNeg y.toNatClampNeg (sm_lt c23_3) (sm_lt c31_4) hB) rfl rfl (Nat.le_of_ble_eq_true rfl) ⟨Nat.le_of_ble_eq_true rfl, Nat.le_of_ble_eq_true rfl⟩ ⟨Nat.zero_le _, Nat.zero_le _⟩ (fun _ => ?_)
            refine g_goto (tgt := 69) C dX2_sum_48 (by decide) ?_
            refine g_istore (lv2 := [(0, .ref (bd 0)), (1, .int z), (2, .int how), (3, .int x), (4, .int y), (5, .int (bz (mPro M x.toNatClampNeg y.toNatClampNeg).1))]) C dX2_sum_69 (by decide) rfl ?_
            refine g_iload C dX2_sum_71 rfl ?_
            refine g_bz_ne (tgt := 79) C dX2_sum_73 (by decide) (fun c73_9 => ?_) (fun c73_9 => ?_)
            · skip
              refine g_aload_n (i := 0) C dX2_sum_79 rfl rfl ?_
              refine g_iload_n (i := 1) C dX2_sum_80 rfl rfl ?_
              refine g_eqi (sm_nI c4_1) ?_
              refine g_bipush (v := 9) C dX2_sum_81 (by decide) ?_
              refine g_callV (av := [.int (nI z.toNatClampNeg), .int 9]) C dX2_sum_83 ln_X2_128 mf_X2_copies 0 rfl rfl (kX2_copiesF K bd ((mPro M x.toNatClampNeg y.toNatClampNeg).2) X z.toNatClampNeg 9 (Nat.lt_of_lt_of_le (sm_lt c4_1) (by decide)) (by decide) (Ne.symm (isSm_n9 c4_1))) rfl rfl (Nat.le_of_ble_eq_true rfl) ⟨Nat.le_of_ble_eq_true rfl, Nat.le_of_ble_eq_true rfl⟩ ⟨Nat.zero_le _, Nat.zero_le _⟩ (fun _ => ?_)
              refine g_aload_n (i := 0) C dX2_sum_86 rfl rfl ?_
              refine g_iload_n (i := 1) C dX2_sum_87 rfl rfl ?_
              refine g_eqi (sm_nI c4_1) ?_
              refine g_callV (av := [.int (nI z.toNatClampNeg)]) C dX2_sum_88 ln_X2_122 mf_X2_terms 0 rfl rfl (kX2_terms K bd (mCpF ((mPro M x.toNatClampNeg y.toNatClampNeg).2) z.toNatClampNeg 9) X z.toNatClampNeg (Nat.lt_of_lt_of_le (sm_lt c4_1) (by decide))) rfl rfl (Nat.le_of_ble_eq_true rfl) ⟨Nat.le_of_ble_eq_true rfl, Nat.le_of_ble_eq_true rfl⟩ ⟨Nat.zero_le _, Nat.zero_le _⟩ (fun _ => ?_)
              exact hR _ _ _ _ () dX2_sum_91 (by rw [mSum, c4_1, cond_true, c16_2, cond_true, c23_3, cond_true, c31_4, cond_true, if_pos c38_5, mSE, c73_9, cond_true] <;> rfl) (by show _ = mW K bd (mSum M z how x y).2 X; rw [mSum, c4_1, cond_true, c16_2, cond_true, c23_3, cond_true, c31_4, cond_true, if_pos c38_5, mSE, c73_9, cond_true] <;> rfl)
            · skip
              refine g_bipush (v := (-5)) C dX2_sum_76 (by decide) ?_
              exact hR _ _ _ _ () dX2_sum_78 (by rw [mSum, c4_1, cond_true, c16_2, cond_true, c23_3, cond_true, c31_4, cond_true, if_pos c38_5, mSE, c73_9, cond_false] <;> rfl) (by show _ = mW K bd (mSum M z how x y).2 X; rw [mSum, c4_1, cond_true, c16_2, cond_true, c23_3, cond_true, c31_4, cond_true, if_pos c38_5, mSE, c73_9, cond_false] <;> rfl)
        · skip
          refine g_iconst (v := (-1)) C dX2_sum_34 (by decide) ?_
          exact hR _ _ _ _ () dX2_sum_35 (by rw [mSum, c4_1, cond_true, c16_2, cond_true, c23_3, cond_true, c31_4, cond_false] <;> rfl) (by show _ = mW K bd (mSum M z how x y).2 X; rw [mSum, c4_1, cond_true, c16_2, cond_true, c23_3, cond_true, c31_4, cond_false] <;> rfl)

set_option maxHeartbeats 600000 in
set_option maxRecDepth 100000 in
theorem kX2_order (K : KT) (bd : Nat → Nat) (M : MSt) (X : va_W) (x : Int32) (y : Int32) (hB : HB M) : ∀ lau : Launch, Con lau yX2_order cX2_order 4 (some .int) 4 103 K (mW K bd M X) (fun _ : Unit => mW K bd ((mOrd M x y).2) X) [.ref (bd 0), .int x, .int y] (some (.int ((mOrd M x y).1))) := by
  refine conI (by decide) (Nat.le_of_ble_eq_true rfl) (fun E C hR => ?_)
  show G E K 0 0 (mW K bd M X) [(0, .ref (bd 0)), (1, .int x), (2, .int y)] 0 []
  refine g_iload_n (i := 1) C dX2_order_0 rfl rfl ?_
  refine g_callS (av := [.int x]) C dX2_order_1 ln_X2_119 mf_X2_isSum (kX2_isSum K (mW K bd M X) x) rfl rfl (Nat.le_of_ble_eq_true rfl) ⟨Nat.le_of_ble_eq_true rfl, Nat.le_of_ble_eq_true rfl⟩ ⟨Nat.zero_le _, Nat.zero_le _⟩ (fun _ => ?_)
  refine g_bz_eq (tgt := 14) C dX2_order_4 (by decide) (fun c4_1 => ?_) (fun c4_1 => ?_)
  · skip
    refine g_bipush (v := (-9)) C dX2_order_14 (by decide) ?_
    exact hR _ _ _ _ () dX2_order_16 (by rw [mOrd, c4_1, cond_false] <;> rfl) (by show _ = mW K bd (mOrd M x y).2 X; rw [mOrd, c4_1, cond_false] <;> rfl)
  · skip
    refine g_iload_n (i := 2) C dX2_order_7 rfl rfl ?_
    refine g_callS (av := [.int y]) C dX2_order_8 ln_X2_119 mf_X2_isSum (kX2_isSum K (mW K bd M X) y) rfl rfl (Nat.le_of_ble_eq_true rfl) ⟨Nat.le_of_ble_eq_true rfl, Nat.le_of_ble_eq_true rfl⟩ ⟨Nat.zero_le _, Nat.zero_le _⟩ (fun _ => ?_)
    refine g_bz_ne (tgt := 17) C dX2_order_11 (by decide) (fun c11_2 => ?_) (fun c11_2 => ?_)
    · skip
      refine g_aload_n (i := 0) C dX2_order_17 rfl rfl ?_
      refine g_iload_n (i := 1) C dX2_order_18 rfl rfl ?_
      refine g_eqi (sm_nI c4_1) ?_
      refine g_iload_n (i := 2) C dX2_order_19 rfl rfl ?_
      refine g_eqi (sm_nI c11_2) ?_
      refine g_ldc2 (v := (-1)) C dX2_order_20 kc_X2_140 ?_
      refine g_callV (av := [.int (nI x.toNatClampNeg), .int (nI y.toNatClampNeg), .long (-1)]) C dX2_order_23 ln_X2_142 mf_X2_adds 0 rfl rfl (kX2_adds K bd M X x.toNatClampNeg y.toNatClampNeg (-1) (sm_lt c4_1) (sm_lt c11_2) hB) rfl rfl (Nat.le_of_ble_eq_true rfl) ⟨Nat.le_of_ble_eq_true rfl, Nat.le_of_ble_eq_true rfl⟩ ⟨Nat.zero_le _, Nat.zero_le _⟩ (fun _ => ?_)
      refine g_bz_ne (tgt := 32) C dX2_order_26 (by decide) (fun c26_3 => ?_) (fun c26_3 => ?_)
      · skip
        refine g_aload_n (i := 0) C dX2_order_32 rfl rfl ?_
        refine g_bipush (v := 9) C dX2_order_33 (by decide) ?_
        refine g_callV (av := [.int 9]) C dX2_order_35 ln_X2_146 mf_X2_greatest 0 rfl rfl (kX2_greatest K bd ((mAdd M x.toNatClampNeg y.toNatClampNeg (-1)).2) X 9 (by decide)) rfl rfl (Nat.le_of_ble_eq_true rfl) ⟨Nat.le_of_ble_eq_true rfl, Nat.le_of_ble_eq_true rfl⟩ ⟨Nat.zero_le _, Nat.zero_le _⟩ (fun _ => ?_)
        refine g_istore_n (i := 3) (lv2 := [(0, .ref (bd 0)), (1, .int x), (2, .int y), (3, .int (nI (grM (abM ((mAdd M x.toNatClampNeg y.toNatClampNeg (-1)).2)) 9 13) - 7))]) C dX2_order_38 rfl (by decide) rfl ?_
        refine g_iload_n (i := 3) C dX2_order_39 rfl rfl ?_
        refine g_bipush (v := (-6)) C dX2_order_40 (by decide) ?_
        refine g_icmp_ge (tgt := 49) C dX2_order_42 (by decide) (fun c42_4 => ?_) (fun c42_4 => ?_)
        · skip
          obtain ⟨g2, eg⟩ := gr_1 c42_4
          have hg2 : g2 < 13 := by have := @gr_le (abM (mAdd M x.toNatClampNeg y.toNatClampNeg (-1)).2) 9 13; omega
          refine g_aload_n (i := 0) C dX2_order_49 rfl rfl ?_
          refine g_get C dX2_order_50 fl_X2_23 0 rfl rfl ?_
          refine g_bipush (v := 9) C dX2_order_53 (by decide) ?_
          refine g_iload_n (i := 3) C dX2_order_55 rfl rfl ?_
          refine g_eqi (by rw [eg, e_pred]) ?_
          refine g_callS (av := [.int 9, .int ((nI g2) - 6)]) C dX2_order_56 ln_X2_105 mf_X2_place (kX2_place K (mW K bd ((mAdd M x.toNatClampNeg y.toNatClampNeg (-1)).2) X) 9 ((nI g2) - 6)) rfl rfl (Nat.le_of_ble_eq_true rfl) ⟨Nat.le_of_ble_eq_true rfl, Nat.le_of_ble_eq_true rfl⟩ ⟨Nat.zero_le _, Nat.zero_le _⟩ (fun _ => ?_)
          refine g_eqi (pl_nI 9 g2) ?_
          refine g_lald C dX2_order_59 3 rfl (vp_in_nI (by omega) (by decide)) ?_
          refine g_eql (congrArg (((mAdd M x.toNatClampNeg y.toNatClampNeg (-1)).2).2.2.2.2.1) (nI_clamp (by omega))) ?_
          refine g_lconst (v := 0) C dX2_order_60 (by decide) ?_
          refine g_lcmp_le (tgt := 69) C dX2_order_61 dX2_order_62 (by decide) (fun c61_5 => ?_) (fun c61_5 => ?_)
          · skip
            refine g_iconst (v := (-1)) C dX2_order_69 (by decide) ?_
            exact hR _ _ _ _ () dX2_order_70 (by rw [mOrd, c4_1, cond_true, c11_2, cond_true, mOrdE, c26_3, cond_true, if_pos c42_4, show 13 * 9 + (grM (abM (mAdd M x.toNatClampNeg y.toNatClampNeg (-1)).2) 9 13 - 1) = 13 * 9 + g2 from by omega, if_pos c61_5] <;> rfl) (by show _ = mW K bd (mOrd M x y).2 X; rw [mOrd, c4_1, cond_true, c11_2, cond_true, mOrdE, c26_3, cond_true, if_pos c42_4, show 13 * 9 + (grM (abM (mAdd M x.toNatClampNeg y.toNatClampNeg (-1)).2) 9 13 - 1) = 13 * 9 + g2 from by omega, if_pos c61_5] <;> rfl)
          · skip
            refine g_iconst (v := 1) C dX2_order_65 (by decide) ?_
            refine g_goto (tgt := 70) C dX2_order_66 (by decide) ?_
            exact hR _ _ _ _ () dX2_order_70 (by rw [mOrd, c4_1, cond_true, c11_2, cond_true, mOrdE, c26_3, cond_true, if_pos c42_4, show 13 * 9 + (grM (abM (mAdd M x.toNatClampNeg y.toNatClampNeg (-1)).2) 9 13 - 1) = 13 * 9 + g2 from by omega, if_neg c61_5] <;> rfl) (by show _ = mW K bd (mOrd M x y).2 X; rw [mOrd, c4_1, cond_true, c11_2, cond_true, mOrdE, c26_3, cond_true, if_pos c42_4, show 13 * 9 + (grM (abM (mAdd M x.toNatClampNeg y.toNatClampNeg (-1)).2) 9 13 - 1) = 13 * 9 + g2 from by omega, if_neg c61_5] <;> rfl)
        · skip
          refine g_iconst (v := 0) C dX2_order_45 (by decide) ?_
          refine g_goto (tgt := 70) C dX2_order_46 (by decide) ?_
          exact hR _ _ _ _ () dX2_order_70 (by rw [mOrd, c4_1, cond_true, c11_2, cond_true, mOrdE, c26_3, cond_true, if_neg c42_4] <;> rfl) (by show _ = mW K bd (mOrd M x y).2 X; rw [mOrd, c4_1, cond_true, c11_2, cond_true, mOrdE, c26_3, cond_true, if_neg c42_4] <;> rfl)
      · skip
        refine g_bipush (v := (-5)) C dX2_order_29 (by decide) ?_
        exact hR _ _ _ _ () dX2_order_31 (by rw [mOrd, c4_1, cond_true, c11_2, cond_true, mOrdE, c26_3, cond_false] <;> rfl) (by show _ = mW K bd (mOrd M x y).2 X; rw [mOrd, c4_1, cond_true, c11_2, cond_true, mOrdE, c26_3, cond_false] <;> rfl)
    · skip
      refine g_bipush (v := (-9)) C dX2_order_14 (by decide) ?_
      exact hR _ _ _ _ () dX2_order_16 (by rw [mOrd, c4_1, cond_true, c11_2, cond_false] <;> rfl) (by show _ = mW K bd (mOrd M x y).2 X; rw [mOrd, c4_1, cond_true, c11_2, cond_false] <;> rfl)

set_option maxHeartbeats 600000 in
set_option maxRecDepth 100000 in
theorem kX2_take (K : KT) (bd : Nat → Nat) (M : MSt) (X : va_W) (z : Int32) (s : Int32) (hd : HD M) : ∀ lau : Launch, Con lau yX2_take cX2_take 3 (some .int) 2 49 K (mW K bd M X) (fun _ : Unit => mW K bd ((mTake M z s).2) X) [.ref (bd 0), .int z, .int s] (some (.int ((mTake M z s).1))) := by
  refine conI (by decide) (Nat.le_of_ble_eq_true rfl) (fun E C hR => ?_)
  show G E K 0 0 (mW K bd M X) [(0, .ref (bd 0)), (1, .int z), (2, .int s)] 0 []
  refine g_iload_n (i := 1) C dX2_take_0 rfl rfl ?_
  refine g_callS (av := [.int z]) C dX2_take_1 ln_X2_119 mf_X2_isSum (kX2_isSum K (mW K bd M X) z) rfl rfl (Nat.le_of_ble_eq_true rfl) ⟨Nat.le_of_ble_eq_true rfl, Nat.le_of_ble_eq_true rfl⟩ ⟨Nat.zero_le _, Nat.zero_le _⟩ (fun _ => ?_)
  refine g_bz_eq (tgt := 14) C dX2_take_4 (by decide) (fun c4_1 => ?_) (fun c4_1 => ?_)
  · skip
    refine g_iconst (v := (-1)) C dX2_take_14 (by decide) ?_
    exact hR _ _ _ _ () dX2_take_15 (by rw [mTake, c4_1, cond_false] <;> rfl) (by show _ = mW K bd (mTake M z s).2 X; rw [mTake, c4_1, cond_false] <;> rfl)
  · skip
    refine g_iload_n (i := 2) C dX2_take_7 rfl rfl ?_
    refine g_callS (av := [.int s]) C dX2_take_8 ln_X2_52 mf_X2_isRegister (kX2_isRegister K (mW K bd M X) s) rfl rfl (Nat.le_of_ble_eq_true rfl) ⟨Nat.le_of_ble_eq_true rfl, Nat.le_of_ble_eq_true rfl⟩ ⟨Nat.zero_le _, Nat.zero_le _⟩ (fun _ => ?_)
    refine g_bz_ne (tgt := 16) C dX2_take_11 (by decide) (fun c11_2 => ?_) (fun c11_2 => ?_)
    · skip
      refine g_aload_n (i := 0) C dX2_take_16 rfl rfl ?_
      refine g_aload_n (i := 0) C dX2_take_17 rfl rfl ?_
      refine g_iload_n (i := 2) C dX2_take_18 rfl rfl ?_
      refine g_callV (av := [.int s]) C dX2_take_19 ln_X2_73 mf_X2_worthOf 0 rfl rfl (kX2_worthOf K bd M X s c11_2 (HD.r hd c11_2)) rfl rfl (Nat.le_of_ble_eq_true rfl) ⟨Nat.le_of_ble_eq_true rfl, Nat.le_of_ble_eq_true rfl⟩ ⟨Nat.zero_le _, Nat.zero_le _⟩ (fun _ => ?_)
      refine g_bipush (v := 24) C dX2_take_22 (by decide) ?_
      refine g_callV (av := [.long (wO M s.toNatClampNeg), .int 24]) C dX2_take_24 ln_X2_112 mf_X2_plain 0 rfl rfl (kX2_plain K bd M X (wO M s.toNatClampNeg) 24 (by decide)) rfl rfl (Nat.le_of_ble_eq_true rfl) ⟨Nat.le_of_ble_eq_true rfl, Nat.le_of_ble_eq_true rfl⟩ ⟨Nat.zero_le _, Nat.zero_le _⟩ (fun _ => ?_)
      refine g_bz_ne (tgt := 33) C dX2_take_27 (by decide) (fun c27_3 => ?_) (fun c27_3 => ?_)
      · skip
        have hzz := sm_lt c4_1
        refine g_aload_n (i := 0) C dX2_take_33 rfl rfl ?_
        refine g_iload_n (i := 1) C dX2_take_34 rfl rfl ?_
        refine g_eqi (sm_nI c4_1) ?_
        refine g_iconst (v := (-1)) C dX2_take_35 (by decide) ?_
        refine g_callV (av := [.int (nI z.toNatClampNeg), .int (-1)]) C dX2_take_36 ln_X2_128 mf_X2_copies 0 rfl rfl (kX2_copiesN K bd (mPl M (wO M s.toNatClampNeg) 24) X z.toNatClampNeg (Nat.lt_of_lt_of_le (sm_lt c4_1) (by decide))) rfl rfl (Nat.le_of_ble_eq_true rfl) ⟨Nat.le_of_ble_eq_true rfl, Nat.le_of_ble_eq_true rfl⟩ ⟨Nat.zero_le _, Nat.zero_le _⟩ (fun _ => ?_)
        refine g_aload_n (i := 0) C dX2_take_39 rfl rfl ?_
        refine g_get C dX2_take_40 fl_X2_23 0 rfl rfl ?_
        refine g_iload_n (i := 1) C dX2_take_43 rfl rfl ?_
        refine g_eqi (sm_nI c4_1) ?_
        refine g_iconst (v := 0) C dX2_take_44 (by decide) ?_
        refine g_callS (av := [.int (nI z.toNatClampNeg), .int 0]) C dX2_take_45 ln_X2_105 mf_X2_place (kX2_place K (mW K bd (mCpN (mPl M (wO M s.toNatClampNeg) 24) z.toNatClampNeg) X) (nI z.toNatClampNeg) 0) rfl rfl (Nat.le_of_ble_eq_true rfl) ⟨Nat.le_of_ble_eq_true rfl, Nat.le_of_ble_eq_true rfl⟩ ⟨Nat.zero_le _, Nat.zero_le _⟩ (fun _ => ?_)
        refine g_eqi (pl_n0 z.toNatClampNeg) ?_
        refine g_aload_n (i := 0) C dX2_take_48 rfl rfl ?_
        refine g_get C dX2_take_49 fl_X2_96 0 rfl rfl ?_
        refine g_eql (show _ = (rdM 24 (wO M s.toNatClampNeg)).1 from rfl) ?_
        refine g_last (Wd2 := mW K bd ((mCpN (mPl M (wO M s.toNatClampNeg) 24) z.toNatClampNeg).1, (mCpN (mPl M (wO M s.toNatClampNeg) 24) z.toNatClampNeg).2.1, (mCpN (mPl M (wO M s.toNatClampNeg) 24) z.toNatClampNeg).2.2.1, (mCpN (mPl M (wO M s.toNatClampNeg) 24) z.toNatClampNeg).2.2.2.1, vp_updL ((mCpN (mPl M (wO M s.toNatClampNeg) 24) z.toNatClampNeg).2.2.2.2.1) (nI (13 * z.toNatClampNeg + 6)).toNatClampNeg ((rdM 24 (wO M s.toNatClampNeg)).1), (mCpN (mPl M (wO M s.toNatClampNeg) 24) z.toNatClampNeg).2.2.2.2.2.1, (mCpN (mPl M (wO M s.toNatClampNeg) 24) z.toNatClampNeg).2.2.2.2.2.2.1, (mCpN (mPl M (wO M s.toNatClampNeg) 24) z.toNatClampNeg).2.2.2.2.2.2.2.1, (mCpN (mPl M (wO M s.toNatClampNeg) 24) z.toNatClampNeg).2.2.2.2.2.2.2.2.1, (mCpN (mPl M (wO M s.toNatClampNeg) 24) z.toNatClampNeg).2.2.2.2.2.2.2.2.2) X) C dX2_take_52 3 rfl (vp_in_nI (by omega) (by decide)) rfl ?_
        refine g_aload_n (i := 0) C dX2_take_53 rfl rfl ?_
        refine g_get C dX2_take_54 fl_X2_27 0 rfl rfl ?_
        refine g_iload_n (i := 1) C dX2_take_57 rfl rfl ?_
        refine g_eqi (sm_nI c4_1) ?_
        refine g_iconst (v := 0) C dX2_take_58 (by decide) ?_
        refine g_callS (av := [.int (nI z.toNatClampNeg), .int 0]) C dX2_take_59 ln_X2_105 mf_X2_place (kX2_place K (mW K bd ((mCpN (mPl M (wO M s.toNatClampNeg) 24) z.toNatClampNeg).1, (mCpN (mPl M (wO M s.toNatClampNeg) 24) z.toNatClampNeg).2.1, (mCpN (mPl M (wO M s.toNatClampNeg) 24) z.toNatClampNeg).2.2.1, (mCpN (mPl M (wO M s.toNatClampNeg) 24) z.toNatClampNeg).2.2.2.1, vp_updL ((mCpN (mPl M (wO M s.toNatClampNeg) 24) z.toNatClampNeg).2.2.2.2.1) (nI (13 * z.toNatClampNeg + 6)).toNatClampNeg ((rdM 24 (wO M s.toNatClampNeg)).1), (mCpN (mPl M (wO M s.toNatClampNeg) 24) z.toNatClampNeg).2.2.2.2.2.1, (mCpN (mPl M (wO M s.toNatClampNeg) 24) z.toNatClampNeg).2.2.2.2.2.2.1, (mCpN (mPl M (wO M s.toNatClampNeg) 24) z.toNatClampNeg).2.2.2.2.2.2.2.1, (mCpN (mPl M (wO M s.toNatClampNeg) 24) z.toNatClampNeg).2.2.2.2.2.2.2.2.1, (mCpN (mPl M (wO M s.toNatClampNeg) 24) z.toNatClampNeg).2.2.2.2.2.2.2.2.2) X) (nI z.toNatClampNeg) 0) rfl rfl (Nat.le_of_ble_eq_true rfl) ⟨Nat.le_of_ble_eq_true rfl, Nat.le_of_ble_eq_true rfl⟩ ⟨Nat.zero_le _, Nat.zero_le _⟩ (fun _ => ?_)
        refine g_eqi (pl_n0 z.toNatClampNeg) ?_
        refine g_aload_n (i := 0) C dX2_take_62 rfl rfl ?_
        refine g_get C dX2_take_63 fl_X2_96 0 rfl rfl ?_
        refine g_eql (show _ = (rdM 24 (wO M s.toNatClampNeg)).1 from rfl) ?_
        refine g_lconst (v := 0) C dX2_take_66 (by decide) ?_
        refine g_lcmp_ne (tgt := 75) C dX2_take_67 dX2_take_68 (by decide) (fun c67_4 => ?_) (fun c67_4 => ?_)
        · skip
          refine g_aload_n (i := 0) C dX2_take_75 rfl rfl ?_
          refine g_get C dX2_take_76 fl_X2_100 0 rfl rfl ?_
          refine g_iast (Wd2 := mW K bd ((mCpN (mPl M (wO M s.toNatClampNeg) 24) z.toNatClampNeg).1, (mCpN (mPl M (wO M s.toNatClampNeg) 24) z.toNatClampNeg).2.1, (mCpN (mPl M (wO M s.toNatClampNeg) 24) z.toNatClampNeg).2.2.1, (mCpN (mPl M (wO M s.toNatClampNeg) 24) z.toNatClampNeg).2.2.2.1, vp_updL ((mCpN (mPl M (wO M s.toNatClampNeg) 24) z.toNatClampNeg).2.2.2.2.1) (nI (13 * z.toNatClampNeg + 6)).toNatClampNeg ((rdM 24 (wO M s.toNatClampNeg)).1), upd ((mCpN (mPl M (wO M s.toNatClampNeg) 24) z.toNatClampNeg).2.2.2.2.2.1) (nI (13 * z.toNatClampNeg + 6)).toNatClampNeg ((mCpN (mPl M (wO M s.toNatClampNeg) 24) z.toNatClampNeg).2.2.2.2.2.2.2.2.2), (mCpN (mPl M (wO M s.toNatClampNeg) 24) z.toNatClampNeg).2.2.2.2.2.2.1, (mCpN (mPl M (wO M s.toNatClampNeg) 24) z.toNatClampNeg).2.2.2.2.2.2.2.1, (mCpN (mPl M (wO M s.toNatClampNeg) 24) z.toNatClampNeg).2.2.2.2.2.2.2.2.1, (mCpN (mPl M (wO M s.toNatClampNeg) 24) z.toNatClampNeg).2.2.2.2.2.2.2.2.2) X) C dX2_take_79 4 rfl (vp_in_nI (by omega) (by decide)) rfl ?_
          refine g_aload_n (i := 0) C dX2_take_80 rfl rfl ?_
          refine g_iload_n (i := 1) C dX2_take_81 rfl rfl ?_
          refine g_eqi (sm_nI c4_1) ?_
          refine g_callV (av := [.int (nI z.toNatClampNeg)]) C dX2_take_82 ln_X2_122 mf_X2_terms 0 rfl rfl (kX2_terms K bd ((mCpN (mPl M (wO M s.toNatClampNeg) 24) z.toNatClampNeg).1, (mCpN (mPl M (wO M s.toNatClampNeg) 24) z.toNatClampNeg).2.1, (mCpN (mPl M (wO M s.toNatClampNeg) 24) z.toNatClampNeg).2.2.1, (mCpN (mPl M (wO M s.toNatClampNeg) 24) z.toNatClampNeg).2.2.2.1, vp_updL ((mCpN (mPl M (wO M s.toNatClampNeg) 24) z.toNatClampNeg).2.2.2.2.1) (nI (13 * z.toNatClampNeg + 6)).toNatClampNeg ((rdM 24 (wO M s.toNatClampNeg)).1), upd ((mCpN (mPl M (wO M s.toNatClampNeg) 24) z.toNatClampNeg).2.2.2.2.2.1) (nI (13 * z.toNatClampNeg + 6)).toNatClampNeg ((mCpN (mPl M (wO M s.toNatClampNeg) 24) z.toNatClampNeg).2.2.2.2.2.2.2.2.2), (mCpN (mPl M (wO M s.toNatClampNeg) 24) z.toNatClampNeg).2.2.2.2.2.2.1, (mCpN (mPl M (wO M s.toNatClampNeg) 24) z.toNatClampNeg).2.2.2.2.2.2.2.1, (mCpN (mPl M (wO M s.toNatClampNeg) 24) z.toNatClampNeg).2.2.2.2.2.2.2.2.1, (mCpN (mPl M (wO M s.toNatClampNeg) 24) z.toNatClampNeg).2.2.2.2.2.2.2.2.2) X z.toNatClampNeg (Nat.lt_of_lt_of_le (sm_lt c4_1) (by decide))) rfl rfl (Nat.le_of_ble_eq_true rfl) ⟨Nat.le_of_ble_eq_true rfl, Nat.le_of_ble_eq_true rfl⟩ ⟨Nat.zero_le _, Nat.zero_le _⟩ (fun _ => ?_)
          exact hR _ _ _ _ () dX2_take_85 (by rw [mTake, c4_1, cond_true, c11_2, cond_true, c27_3, cond_true, mT1, if_neg c67_4, nI_clamp (n := 13 * z.toNatClampNeg + 6) (by omega)] <;> rfl) (by show _ = mW K bd (mTake M z s).2 X; rw [mTake, c4_1, cond_true, c11_2, cond_true, c27_3, cond_true, mT1, if_neg c67_4, nI_clamp (n := 13 * z.toNatClampNeg + 6) (by omega)] <;> rfl)
        · skip
          refine g_iconst (v := 0) C dX2_take_71 (by decide) ?_
          refine g_goto (tgt := 79) C dX2_take_72 (by decide) ?_
          refine g_iast (Wd2 := mW K bd ((mCpN (mPl M (wO M s.toNatClampNeg) 24) z.toNatClampNeg).1, (mCpN (mPl M (wO M s.toNatClampNeg) 24) z.toNatClampNeg).2.1, (mCpN (mPl M (wO M s.toNatClampNeg) 24) z.toNatClampNeg).2.2.1, (mCpN (mPl M (wO M s.toNatClampNeg) 24) z.toNatClampNeg).2.2.2.1, vp_updL ((mCpN (mPl M (wO M s.toNatClampNeg) 24) z.toNatClampNeg).2.2.2.2.1) (nI (13 * z.toNatClampNeg + 6)).toNatClampNeg ((rdM 24 (wO M s.toNatClampNeg)).1), upd ((mCpN (mPl M (wO M s.toNatClampNeg) 24) z.toNatClampNeg).2.2.2.2.2.1) (nI (13 * z.toNatClampNeg + 6)).toNatClampNeg 0, (mCpN (mPl M (wO M s.toNatClampNeg) 24) z.toNatClampNeg).2.2.2.2.2.2.1, (mCpN (mPl M (wO M s.toNatClampNeg) 24) z.toNatClampNeg).2.2.2.2.2.2.2.1, (mCpN (mPl M (wO M s.toNatClampNeg) 24) z.toNatClampNeg).2.2.2.2.2.2.2.2.1, (mCpN (mPl M (wO M s.toNatClampNeg) 24) z.toNatClampNeg).2.2.2.2.2.2.2.2.2) X) C dX2_take_79 4 rfl (vp_in_nI (by omega) (by decide)) rfl ?_
          refine g_aload_n (i := 0) C dX2_take_80 rfl rfl ?_
          refine g_iload_n (i := 1) C dX2_take_81 rfl rfl ?_
          refine g_eqi (sm_nI c4_1) ?_
          refine g_callV (av := [.int (nI z.toNatClampNeg)]) C dX2_take_82 ln_X2_122 mf_X2_terms 0 rfl rfl (kX2_terms K bd ((mCpN (mPl M (wO M s.toNatClampNeg) 24) z.toNatClampNeg).1, (mCpN (mPl M (wO M s.toNatClampNeg) 24) z.toNatClampNeg).2.1, (mCpN (mPl M (wO M s.toNatClampNeg) 24) z.toNatClampNeg).2.2.1, (mCpN (mPl M (wO M s.toNatClampNeg) 24) z.toNatClampNeg).2.2.2.1, vp_updL ((mCpN (mPl M (wO M s.toNatClampNeg) 24) z.toNatClampNeg).2.2.2.2.1) (nI (13 * z.toNatClampNeg + 6)).toNatClampNeg ((rdM 24 (wO M s.toNatClampNeg)).1), upd ((mCpN (mPl M (wO M s.toNatClampNeg) 24) z.toNatClampNeg).2.2.2.2.2.1) (nI (13 * z.toNatClampNeg + 6)).toNatClampNeg 0, (mCpN (mPl M (wO M s.toNatClampNeg) 24) z.toNatClampNeg).2.2.2.2.2.2.1, (mCpN (mPl M (wO M s.toNatClampNeg) 24) z.toNatClampNeg).2.2.2.2.2.2.2.1, (mCpN (mPl M (wO M s.toNatClampNeg) 24) z.toNatClampNeg).2.2.2.2.2.2.2.2.1, (mCpN (mPl M (wO M s.toNatClampNeg) 24) z.toNatClampNeg).2.2.2.2.2.2.2.2.2) X z.toNatClampNeg (Nat.lt_of_lt_of_le (sm_lt c4_1) (by decide))) rfl rfl (Nat.le_of_ble_eq_true rfl) ⟨Nat.le_of_ble_eq_true rfl, Nat.le_of_ble_eq_true rfl⟩ ⟨Nat.zero_le _, Nat.zero_le _⟩ (fun _ => ?_)
          exact hR _ _ _ _ () dX2_take_85 (by rw [mTake, c4_1, cond_true, c11_2, cond_true, c27_3, cond_true, mT1, if_pos c67_4, nI_clamp (n := 13 * z.toNatClampNeg + 6) (by omega)] <;> rfl) (by show _ = mW K bd (mTake M z s).2 X; rw [mTake, c4_1, cond_true, c11_2, cond_true, c27_3, cond_true, mT1, if_pos c67_4, nI_clamp (n := 13 * z.toNatClampNeg + 6) (by omega)] <;> rfl)
      · skip
        refine g_bipush (v := (-5)) C dX2_take_30 (by decide) ?_
        exact hR _ _ _ _ () dX2_take_32 (by rw [mTake, c4_1, cond_true, c11_2, cond_true, c27_3, cond_false] <;> rfl) (by show _ = mW K bd (mTake M z s).2 X; rw [mTake, c4_1, cond_true, c11_2, cond_true, c27_3, cond_false] <;> rfl)
    · skip
      refine g_iconst (v := (-1)) C dX2_take_14 (by decide) ?_
      exact hR _ _ _ _ () dX2_take_15 (by rw [mTake, c4_1, cond_true, c11_2, cond_false] <;> rfl) (by show _ = mW K bd (mTake M z s).2 X; rw [mTake, c4_1, cond_true, c11_2, cond_false] <;> rfl)

set_option maxHeartbeats 600000 in
set_option maxRecDepth 100000 in
theorem kX2_near (K : KT) (bd : Nat → Nat) (M : MSt) (X : va_W) (s : Int32) (z : Int32) (hB : HB M) : ∀ lau : Launch, Con lau yX2_near cX2_near 3 (some .int) 2 58 K (mW K bd M X) (fun _ : Unit => mW K bd ((mNear M s z).2) X) [.ref (bd 0), .int s, .int z] (some (.int ((mNear M s z).1))) := by
  refine conI (by decide) (Nat.le_of_ble_eq_true rfl) (fun E C hR => ?_)
  show G E K 0 0 (mW K bd M X) [(0, .ref (bd 0)), (1, .int s), (2, .int z)] 0 []
  refine g_iload_n (i := 1) C dX2_near_0 rfl rfl ?_
  refine g_callS (av := [.int s]) C dX2_near_1 ln_X2_52 mf_X2_isRegister (kX2_isRegister K (mW K bd M X) s) rfl rfl (Nat.le_of_ble_eq_true rfl) ⟨Nat.le_of_ble_eq_true rfl, Nat.le_of_ble_eq_true rfl⟩ ⟨Nat.zero_le _, Nat.zero_le _⟩ (fun _ => ?_)
  refine g_bz_eq (tgt := 14) C dX2_near_4 (by decide) (fun c4_1 => ?_) (fun c4_1 => ?_)
  · skip
    refine g_iconst (v := (-1)) C dX2_near_14 (by decide) ?_
    exact hR _ _ _ _ () dX2_near_15 (by rw [mNear, c4_1, cond_false] <;> rfl) (by show _ = mW K bd (mNear M s z).2 X; rw [mNear, c4_1, cond_false] <;> rfl)
  · skip
    refine g_iload_n (i := 2) C dX2_near_7 rfl rfl ?_
    refine g_callS (av := [.int z]) C dX2_near_8 ln_X2_119 mf_X2_isSum (kX2_isSum K (mW K bd M X) z) rfl rfl (Nat.le_of_ble_eq_true rfl) ⟨Nat.le_of_ble_eq_true rfl, Nat.le_of_ble_eq_true rfl⟩ ⟨Nat.zero_le _, Nat.zero_le _⟩ (fun _ => ?_)
    refine g_bz_ne (tgt := 16) C dX2_near_11 (by decide) (fun c11_2 => ?_) (fun c11_2 => ?_)
    · skip
      refine g_aload_n (i := 0) C dX2_near_16 rfl rfl ?_
      refine g_iload_n (i := 2) C dX2_near_17 rfl rfl ?_
      refine g_eqi (sm_nI c11_2) ?_
      refine g_callV (av := [.int (nI z.toNatClampNeg)]) C dX2_near_18 ln_X2_146 mf_X2_greatest 0 rfl rfl (kX2_greatest K bd M X z.toNatClampNeg (Nat.lt_of_lt_of_le (sm_lt c11_2) (by decide))) rfl rfl (Nat.le_of_ble_eq_true rfl) ⟨Nat.le_of_ble_eq_true rfl, Nat.le_of_ble_eq_true rfl⟩ ⟨Nat.zero_le _, Nat.zero_le _⟩ (fun _ => ?_)
      refine g_if_le (tgt := 29) C dX2_near_21 (by decide) (fun c21_3 => ?_) (fun c21_3 => ?_)
      · skip
        have hzz := sm_lt c11_2
        refine g_aload_n (i := 0) C dX2_near_29 rfl rfl ?_
        refine g_iload_n (i := 1) C dX2_near_30 rfl rfl ?_
        refine g_aload_n (i := 0) C dX2_near_31 rfl rfl ?_
        refine g_aload_n (i := 0) C dX2_near_32 rfl rfl ?_
        refine g_get C dX2_near_33 fl_X2_23 0 rfl rfl ?_
        refine g_iload_n (i := 2) C dX2_near_36 rfl rfl ?_
        refine g_eqi (sm_nI c11_2) ?_
        refine g_iconst (v := 0) C dX2_near_37 (by decide) ?_
        refine g_callS (av := [.int (nI z.toNatClampNeg), .int 0]) C dX2_near_38 ln_X2_105 mf_X2_place (kX2_place K (mW K bd M X) (nI z.toNatClampNeg) 0) rfl rfl (Nat.le_of_ble_eq_true rfl) ⟨Nat.le_of_ble_eq_true rfl, Nat.le_of_ble_eq_true rfl⟩ ⟨Nat.zero_le _, Nat.zero_le _⟩ (fun _ => ?_)
        refine g_eqi (pl_n0 z.toNatClampNeg) ?_
        refine g_lald C dX2_near_41 3 rfl (vp_in_nI (by omega) (by decide)) ?_
        refine g_eql (congrArg M.2.2.2.2.1 (nI_clamp (by omega))) ?_
        refine g_aload_n (i := 0) C dX2_near_42 rfl rfl ?_
        refine g_get C dX2_near_43 fl_X2_27 0 rfl rfl ?_
        refine g_iload_n (i := 2) C dX2_near_46 rfl rfl ?_
        refine g_eqi (sm_nI c11_2) ?_
        refine g_iconst (v := 0) C dX2_near_47 (by decide) ?_
        refine g_callS (av := [.int (nI z.toNatClampNeg), .int 0]) C dX2_near_48 ln_X2_105 mf_X2_place (kX2_place K (mW K bd M X) (nI z.toNatClampNeg) 0) rfl rfl (Nat.le_of_ble_eq_true rfl) ⟨Nat.le_of_ble_eq_true rfl, Nat.le_of_ble_eq_true rfl⟩ ⟨Nat.zero_le _, Nat.zero_le _⟩ (fun _ => ?_)
        refine g_eqi (pl_n0 z.toNatClampNeg) ?_
        refine g_iald C dX2_near_51 4 rfl (vp_in_nI (by omega) (by decide)) ?_
        refine g_eqi (congrArg M.2.2.2.2.2.1 (nI_clamp (by omega))) ?_
        refine g_eqi (HB.c hB (i := 13 * z.toNatClampNeg + 6) (by omega)) ?_
        refine g_callV (av := [.long (M.2.2.2.2.1 (13 * z.toNatClampNeg + 6)), .int (nI (bN M (13 * z.toNatClampNeg + 6)))]) C dX2_near_52 ln_X2_64 mf_X2_has 0 rfl rfl (kX2_has K bd M X (M.2.2.2.2.1 (13 * z.toNatClampNeg + 6)) (bN M (13 * z.toNatClampNeg + 6)) (by have := HB.bn hB (i := 13 * z.toNatClampNeg + 6) (by omega); omega)) rfl rfl (Nat.le_of_ble_eq_true rfl) ⟨Nat.le_of_ble_eq_true rfl, Nat.le_of_ble_eq_true rfl⟩ ⟨Nat.zero_le _, Nat.zero_le _⟩ (fun _ => ?_)
        refine g_callV (av := [.int s, .int (bz (mHas M (M.2.2.2.2.1 (13 * z.toNatClampNeg + 6)) (bN M (13 * z.toNatClampNeg + 6))).1)]) C dX2_near_55 ln_X2_68 mf_X2_keeps 0 rfl rfl (kX2_keeps K bd ((mHas M (M.2.2.2.2.1 (13 * z.toNatClampNeg + 6)) (bN M (13 * z.toNatClampNeg + 6))).2) X s ((mHas M (M.2.2.2.2.1 (13 * z.toNatClampNeg + 6)) (bN M (13 * z.toNatClampNeg + 6))).1) c4_1) rfl rfl (Nat.le_of_ble_eq_true rfl) ⟨Nat.le_of_ble_eq_true rfl, Nat.le_of_ble_eq_true rfl⟩ ⟨Nat.zero_le _, Nat.zero_le _⟩ (fun _ => ?_)
        exact hR _ _ _ _ () dX2_near_58 (by rw [mNear, c4_1, cond_true, c11_2, cond_true, if_pos c21_3] <;> rfl) (by show _ = mW K bd (mNear M s z).2 X; rw [mNear, c4_1, cond_true, c11_2, cond_true, if_pos c21_3] <;> rfl)
      · skip
        refine g_bipush (v := (-2)) C dX2_near_24 (by decide) ?_
        refine g_goto (tgt := 58) C dX2_near_26 (by decide) ?_
        exact hR _ _ _ _ () dX2_near_58 (by rw [mNear, c4_1, cond_true, c11_2, cond_true, if_neg c21_3] <;> rfl) (by show _ = mW K bd (mNear M s z).2 X; rw [mNear, c4_1, cond_true, c11_2, cond_true, if_neg c21_3] <;> rfl)
    · skip
      refine g_iconst (v := (-1)) C dX2_near_14 (by decide) ?_
      exact hR _ _ _ _ () dX2_near_15 (by rw [mNear, c4_1, cond_true, c11_2, cond_false] <;> rfl) (by show _ = mW K bd (mNear M s z).2 X; rw [mNear, c4_1, cond_true, c11_2, cond_false] <;> rfl)
