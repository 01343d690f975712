def keep (M : MSt) (s : Int32) (b : Bool) : Int32 × MSt := bif b then (fdM M, (upd M.1 s.toNatClampNeg (fdM M), upd M.2.1 s.toNatClampNeg (fsM M), M.2.2.1, M.2.2.2.1, M.2.2.2.2.1, M.2.2.2.2.2.1, M.2.2.2.2.2.2.1, M.2.2.2.2.2.2.2.1, M.2.2.2.2.2.2.2.2.1, M.2.2.2.2.2.2.2.2.2)) else (-3, M)
abbrev mFd (M : MSt) (n x : Int32) : MSt := (M.1, M.2.1, M.2.2.1, M.2.2.2.1, M.2.2.2.2.1, M.2.2.2.2.2.1, n, x, M.2.2.2.2.2.2.2.2.1, M.2.2.2.2.2.2.2.2.2)
def fnS (hl : Bool) (lo : Int64) (hh : Bool) (hi : Int64) : Nat → Nat → Int32 → Bool × Nat × Int32
  | 0, n, x => (false, n, x)
  | f + 1, n, x => bif hl then (if wM x n ≤ lo then (if nI n = 24 then (false, n, x) else fnS hl lo hh hi f (n + 1) (x ||| (1 <<< (nI n &&& 31)))) else bif hh then (if wM x n < hi then (true, n, x) else if nI n = 24 then (false, n, x) else fnS hl lo hh hi f (n + 1) x) else (true, n, x)) else bif hh then (if wM x n < hi then (true, n, x) else if nI n = 24 then (false, n, x) else fnS hl lo hh hi f (n + 1) x) else (true, n, x)
def mFin (M : MSt) (hl : Bool) (lo : Int64) (hh : Bool) (hi : Int64) : Bool × MSt := ((fnS hl lo hh hi 25 0 0).1, mFd M (nI (fnS hl lo hh hi 25 0 0).2.1) (fnS hl lo hh hi 25 0 0).2.2)
def rdM : Nat → Int64 → Int64 × Nat
  | 0, a => (a, 0)
  | k + 1, a => if a - a / 2 * 2 = 0 then rdM k (a / 2) else (a, k + 1)
def hsM (v : Int64) : Nat → Nat → Int32 → Bool × Nat × Int32
  | 0, n, x => (false, n, x)
  | f + 1, n, x => if wM x n = v then (true, n, x) else if nI n = 24 then (false, n, x) else if v ≤ wM x n then hsM v f (n + 1) x else hsM v f (n + 1) (x ||| (1 <<< (nI n &&& 31)))
def hasV (M : MSt) (v : Int64) : Bool × MSt := ((hsM v 25 0 0).1, mFd M (nI (hsM v 25 0 0).2.1) (hsM v 25 0 0).2.2)
def hasR (M : MSt) (u : Int64) (k : Nat) : Bool × MSt := if 23 < nI k then (false, M) else if shlL 25 (nI k) < u then (false, M) else if -(shlL 25 (nI k)) ≤ u then hasV M (u * shrL 16777216 (nI k)) else (false, M)
def mHas (M : MSt) (a : Int64) (k : Nat) : Bool × MSt := hasR M (rdM k a).1 (rdM k a).2
def mRow (M : MSt) (s n x : Int32) : Int32 × MSt := bif isReg s then bif inL n.toInt64 0 24 then (if ushrI x n = 0 then (n, (upd M.1 s.toNatClampNeg n, upd M.2.1 s.toNatClampNeg x, M.2.2.1, M.2.2.2.1, M.2.2.2.2.1, M.2.2.2.2.2.1, M.2.2.2.2.2.2.1, M.2.2.2.2.2.2.2.1, M.2.2.2.2.2.2.2.2.1, M.2.2.2.2.2.2.2.2.2)) else (-1, M)) else (-1, M) else (-1, M)
def mKH (s : Int32) (r : Bool × MSt) : Int32 × MSt := keep r.2 s r.1
def mNum (M : MSt) (s a k : Int32) : Int32 × MSt := bif isReg s then bif inL a.toInt64 (-1000000000) 1000000000 then bif inL k.toInt64 0 20 then mKH s (mHas M a.toInt64 k.toNatClampNeg) else (-1, M) else (-1, M) else (-1, M)
def mAt (M : MSt) (s i : Int32) : Int32 := bif isReg s then (if -1 ≤ i then (if 0 ≤ i then (if dyM M s ≤ i then -4 else bz (tb (sgM M s) i)) else dyM M s) else -1) else -1
def mVal (M : MSt) (s w : Int32) : Int32 := bif isReg s then bif inL w.toInt64 0 1 then (if w = 0 then (rdM 24 (wO M s.toNatClampNeg)).1.toInt32 else nI (rdM 24 (wO M s.toNatClampNeg)).2) else -1000000000 else -1000000000
def mAgn (M : MSt) (s t : Int32) : Int32 := bif isReg s then bif isReg t then cmpL (wO M s.toNatClampNeg) (wO M t.toNatClampNeg) else -9 else -9
def mWork (M : MSt) (s how t u : Int32) : Int32 × MSt := bif isReg s then bif inL how.toInt64 0 3 then bif isReg t then (if 3 ≤ how then mKH s (mHas M (-(wO M t.toNatClampNeg)) 24) else bif isReg u then (if how = 0 then mKH s (mHas M (wO M t.toNatClampNeg + wO M u.toNatClampNeg) 24) else if how = 1 then mKH s (mHas M (wO M t.toNatClampNeg - wO M u.toNatClampNeg) 24) else mKH s (mHas M (wO M t.toNatClampNeg * wO M u.toNatClampNeg) 48)) else (-1, M)) else (-1, M) else (-1, M) else (-1, M)
def mPair (M : MSt) (w : Int32) : Int32 := if w = 0 then M.2.2.1 else if w = 1 then M.2.2.2.1 else -1
theorem fnS_s {hl : Bool} {lo : Int64} {hh : Bool} {hi : Int64} {n : Nat} {x : Int32} (h : n < 25) : fnS hl lo hh hi (25 - n) n x = bif hl then (if wM x n ≤ lo then (if nI n = 24 then (false, n, x) else fnS hl lo hh hi (25 - (n + 1)) (n + 1) (x ||| (1 <<< (nI n &&& 31)))) else bif hh then (if wM x n < hi then (true, n, x) else if nI n = 24 then (false, n, x) else fnS hl lo hh hi (25 - (n + 1)) (n + 1) x) else (true, n, x)) else bif hh then (if wM x n < hi then (true, n, x) else if nI n = 24 then (false, n, x) else fnS hl lo hh hi (25 - (n + 1)) (n + 1) x) else (true, n, x) := by
  rw [show 25 - n = (25 - (n + 1)) + 1 from by omega]
  rfl
theorem hsM_s {v : Int64} {n : Nat} {x : Int32} (h : n < 25) : hsM v (25 - n) n x = if wM x n = v then (true, n, x) else if nI n = 24 then (false, n, x) else if v ≤ wM x n then hsM v (25 - (n + 1)) (n + 1) x else hsM v (25 - (n + 1)) (n + 1) (x ||| (1 <<< (nI n &&& 31))) := by
  rw [show 25 - n = (25 - (n + 1)) + 1 from by omega]
  rfl
theorem n24 {n : Nat} (h : ¬ nI n = 24) (hn : n ≤ 24) : n < 24 := by
  rcases Nat.lt_or_ge n 24 with q | q
  · exact q
  · exact absurd (by rw [show n = 24 from by omega]; rfl) h
theorem nz {k : Nat} (h : ¬ nI k ≤ 0) : ∃ j, k = j + 1 := by
  cases k with
  | zero => exact absurd (by decide) h
  | succ j => exact ⟨j, rfl⟩
theorem nz0 {k : Nat} (h : nI k ≤ 0) (hk : k < 2 ^ 31) : k = 0 := by
  cases k with
  | zero => rfl
  | succ j => exact absurd h (nI_nle (by omega) hk)
theorem decS (n : Nat) : nI (n + 1) + Int32.ofInt (-1) = nI n := pk_m1 n
theorem how3 {h : Int32} (h1 : inL h.toInt64 0 3 = true) (h2 : ¬ 3 ≤ h) : h = 0 ∨ (¬ h = 0 ∧ h = 1) ∨ (¬ h = 0 ∧ ¬ h = 1 ∧ h = 2) := by
  rw [inL_gen h 0 3 (a := 0) (b := 3) rfl rfl] at h1
  simp only [Bool.and_eq_true, Bool.not_eq_true', decide_eq_false_iff_not] at h1
  obtain ⟨j, hj, e⟩ := nI_of2 (M := 3) (n := 3) rfl h1.1 (Int32.not_lt.mp h1.2)
  have hj3 : j < 3 := by
    rcases Nat.lt_or_ge j 3 with q | q
    · exact q
    · exact absurd (by rw [e, show j = 3 from by omega]; decide) h2
  match j, hj3 with
  | 0, _ => exact Or.inl e
  | 1, _ => exact Or.inr (Or.inl ⟨by rw [e]; decide, e⟩)
  | 2, _ => exact Or.inr (Or.inr ⟨by rw [e]; decide, by rw [e]; decide, e⟩)
theorem how3b {h : Int32} (h1 : inL h.toInt64 0 3 = true) (h2 : 3 ≤ h) : h = 3 := by
  rw [inL_gen h 0 3 (a := 0) (b := 3) rfl rfl] at h1
  simp only [Bool.and_eq_true, Bool.not_eq_true', decide_eq_false_iff_not] at h1
  obtain ⟨j, hj, e⟩ := nI_of2 (M := 3) (n := 3) rfl h1.1 (Int32.not_lt.mp h1.2)
  rw [e] at h2 ⊢
  have : 3 ≤ j := nle (a := 3) h2 (by decide) (by omega)
  rw [show j = 3 from by omega]; rfl
theorem in20 {k : Int32} (h : inL k.toInt64 0 20 = true) : ∃ j : Nat, j ≤ 20 ∧ k = nI j := by
  rw [inL_gen k 0 20 (a := 0) (b := 20) rfl rfl] at h
  simp only [Bool.and_eq_true, Bool.not_eq_true', decide_eq_false_iff_not] at h
  exact nI_of2 (M := 20) (n := 20) rfl h.1 (Int32.not_lt.mp h.2)
theorem kX2_worthI (K : KT) (Wd : va_W) (sg n : Int32) (h : ¬ n < 0) : ∀ lau : Launch, Con lau yX2_worth cX2_worth 9 (some .long) 0 0 K Wd (fun _ : Unit => Wd) [.int sg, .int n] (some (.long (wM sg n.toNatClampNeg))) := by
  obtain ⟨j, hj, rfl⟩ := nI_of h
  rw [nI_clamp hj]
  exact kX2_worth K Wd sg j hj
theorem knn {x : Int32} (h : ∃ k : Nat, k ≤ 24 ∧ x = nI k) : ¬ x < 0 := by
  obtain ⟨k, hk, rfl⟩ := h
  exact nI_pos (by omega)
set_option maxHeartbeats 600000 in
set_option maxRecDepth 100000 in
theorem kX2_worthOf (K : KT) (bd : Nat → Nat) (M : MSt) (X : va_W) (s : Int32) (hs : isReg s = true) (hd : ∃ k : Nat, k ≤ 24 ∧ M.1 s.toNatClampNeg = nI k) : ∀ lau : Launch, Con lau yX2_worthOf cX2_worthOf 2 (some .long) 1 28 K (mW K bd M X) (fun _ : Unit => mW K bd M X) [.ref (bd 0), .int s] (some (.long (wO M s.toNatClampNeg))) := by
  refine conL (by decide) (Nat.le_of_ble_eq_true rfl) (fun E C hR => ?_)
  show G E K 0 0 (mW K bd M X) [(0, .ref (bd 0)), (1, .int s)] 0 []
  refine g_aload_n (i := 0) C dX2_worthOf_0 rfl rfl ?_
  refine g_get C dX2_worthOf_1 fl_X2_13 0 rfl rfl ?_
  refine g_iload_n (i := 1) C dX2_worthOf_4 rfl rfl ?_
  refine g_iald C dX2_worthOf_5 2 rfl (isReg_in hs) ?_
  refine g_aload_n (i := 0) C dX2_worthOf_6 rfl rfl ?_
  refine g_get C dX2_worthOf_7 fl_X2_7 0 rfl rfl ?_
  refine g_iload_n (i := 1) C dX2_worthOf_10 rfl rfl ?_
  refine g_iald C dX2_worthOf_11 1 rfl (isReg_in hs) ?_
  refine g_callS (av := [.int (M.2.1 s.toNatClampNeg), .int (M.1 s.toNatClampNeg)]) C dX2_worthOf_12 ln_X2_40 mf_X2_worth (kX2_worthI K (mW K bd M X) (M.2.1 s.toNatClampNeg) (M.1 s.toNatClampNeg) (knn hd)) rfl rfl (Nat.le_of_ble_eq_true rfl) ⟨Nat.le_of_ble_eq_true rfl, Nat.le_of_ble_eq_true rfl⟩ ⟨Nat.zero_le _, Nat.zero_le _⟩ (fun _ => ?_)
  exact hR _ _ _ _ () dX2_worthOf_15 (rfl) (rfl)

set_option maxHeartbeats 600000 in
set_option maxRecDepth 100000 in
theorem kX2_finds (K : KT) (bd : Nat → Nat) (M : MSt) (X : va_W) (hl : Bool) (lo : Int64) (hh : Bool) (hi : Int64) : ∀ lau : Launch, Con lau yX2_finds cX2_finds 9 (some .boolean) 1 28 K (mW K bd M X) (fun _ : Unit => mW K bd ((mFin M hl lo hh hi).2) X) [.ref (bd 0), .int (bz hl), .long lo, .int (bz hh), .long hi] (some (.int (bz (mFin M hl lo hh hi).1))) := by
  refine conZ (by decide) (Nat.le_of_ble_eq_true rfl) (fun E C hR => ?_)
  show G E K 0 0 (mW K bd M X) [(0, .ref (bd 0)), (1, .int (bz hl)), (2, .long lo), (4, .int (bz hh)), (5, .long hi)] 0 []
  refine g_aload_n (i := 0) C dX2_finds_0 rfl rfl ?_
  refine g_iconst (v := 0) C dX2_finds_1 (by decide) ?_
  refine g_put (Wd2 := mW K bd (M.1, M.2.1, M.2.2.1, M.2.2.2.1, M.2.2.2.2.1, M.2.2.2.2.2.1, 0, M.2.2.2.2.2.2.2.1, M.2.2.2.2.2.2.2.2.1, M.2.2.2.2.2.2.2.2.2) X) C dX2_finds_2 fp_X2_44 0 rfl rfl rfl (Nat.le_of_ble_eq_true rfl) rfl ?_
  refine g_aload_n (i := 0) C dX2_finds_5 rfl rfl ?_
  refine g_iconst (v := 0) C dX2_finds_6 (by decide) ?_
  refine g_put (Wd2 := mW K bd (M.1, M.2.1, M.2.2.1, M.2.2.2.1, M.2.2.2.2.1, M.2.2.2.2.2.1, 0, 0, M.2.2.2.2.2.2.2.2.1, M.2.2.2.2.2.2.2.2.2) X) C dX2_finds_7 fp_X2_47 0 rfl rfl rfl (Nat.le_of_ble_eq_true rfl) rfl ?_
  refine g_lconst (v := 0) C dX2_finds_10 (by decide) ?_
  refine g_lstore (lv2 := [(0, .ref (bd 0)), (1, .int (bz hl)), (2, .long lo), (4, .int (bz hh)), (5, .long hi), (7, .long 0)]) C dX2_finds_11 (by decide) rfl ?_
  have lo : ∀ (fuel : Nat) (n : Nat) (x : Int32) (a : Int64), n ≤ 24 → 24 < n + fuel → a = wM x n → fnS hl lo hh hi (25 - n) n x = fnS hl lo hh hi 25 0 0 → G E K 0 0 (mW K bd (M.1, M.2.1, M.2.2.1, M.2.2.2.1, M.2.2.2.2.1, M.2.2.2.2.2.1, nI n, x, M.2.2.2.2.2.2.2.2.1, M.2.2.2.2.2.2.2.2.2) X) [(0, .ref (bd 0)), (1, .int (bz hl)), (2, .long lo), (4, .int (bz hh)), (5, .long hi), (7, .long a)] 13 [] := by
    intro fuel
    induction fuel with
    | zero =>
      intro n x a hlo0 hlo1 hlo2 hlo3
      omega
    | succ fuel ihlo =>
      intro n x a hlo0 hlo1 hlo2 hlo3
      subst hlo2
      refine g_iload_n (i := 1) C dX2_finds_13 rfl rfl ?_
      refine g_bz_eq (tgt := 24) C dX2_finds_14 (by decide) (fun c14_1 => ?_) (fun c14_1 => ?_)
      · skip
        refine g_iload C dX2_finds_24 rfl ?_
        refine g_bz_eq (tgt := 100) C dX2_finds_26 (by decide) (fun c26_2 => ?_) (fun c26_2 => ?_)
        · skip
          refine g_iconst (v := 1) C dX2_finds_100 (by decide) ?_
          exact hR _ _ _ _ () dX2_finds_101 (by rw [mFin, ← hlo3, fnS_s (n := n) (by omega), c14_1, cond_false, c26_2, cond_false] <;> rfl) (by show _ = mW K bd (mFin M hl lo hh hi).2 X; rw [mFin, ← hlo3, fnS_s (n := n) (by omega), c14_1, cond_false, c26_2, cond_false] <;> rfl)
        · skip
          refine g_lload C dX2_finds_29 rfl ?_
          refine g_lload C dX2_finds_31 rfl ?_
          refine g_lcmp_lt (tgt := 100) C dX2_finds_33 dX2_finds_34 (by decide) (fun c33_3 => ?_) (fun c33_3 => ?_)
          · skip
            refine g_iconst (v := 1) C dX2_finds_100 (by decide) ?_
            exact hR _ _ _ _ () dX2_finds_101 (by rw [mFin, ← hlo3, fnS_s (n := n) (by omega), c14_1, cond_false, c26_2, cond_true, if_pos c33_3] <;> rfl) (by show _ = mW K bd (mFin M hl lo hh hi).2 X; rw [mFin, ← hlo3, fnS_s (n := n) (by omega), c14_1, cond_false, c26_2, cond_true, if_pos c33_3] <;> rfl)
          · skip
            refine g_aload_n (i := 0) C dX2_finds_37 rfl rfl ?_
            refine g_get C dX2_finds_38 fl_X2_44 0 rfl rfl ?_
            refine g_bipush (v := 24) C dX2_finds_41 (by decide) ?_
            refine g_icmp_ne (tgt := 48) C dX2_finds_43 (by decide) (fun c43_4 => ?_) (fun c43_4 => ?_)
            · skip
              refine g_iload_n (i := 1) C dX2_finds_48 rfl rfl ?_
              refine g_bz_eq (tgt := 74) C dX2_finds_49 (by decide) (fun _ => ?_) (fun q => absurd (c14_1.symm.trans q) (by decide))
              refine g_aload_n (i := 0) C dX2_finds_74 rfl rfl ?_
              refine g_dup C dX2_finds_75 rfl ?_
              refine g_get C dX2_finds_76 fl_X2_44 0 rfl rfl ?_
              refine g_iconst (v := 1) C dX2_finds_79 (by decide) ?_
              refine g_iadd C dX2_finds_80 ?_
              refine g_eqi (show nI n + 1 = nI (n + 1) from nI_1 n) ?_
              refine g_put (Wd2 := mW K bd (M.1, M.2.1, M.2.2.1, M.2.2.2.1, M.2.2.2.2.1, M.2.2.2.2.2.1, nI (n + 1), x, M.2.2.2.2.2.2.2.2.1, M.2.2.2.2.2.2.2.2.2) X) C dX2_finds_81 fp_X2_44 0 rfl rfl rfl (Nat.le_of_ble_eq_true rfl) rfl ?_
              refine g_aload_n (i := 0) C dX2_finds_84 rfl rfl ?_
              refine g_get C dX2_finds_85 fl_X2_47 0 rfl rfl ?_
              refine g_aload_n (i := 0) C dX2_finds_88 rfl rfl ?_
              refine g_get C dX2_finds_89 fl_X2_44 0 rfl rfl ?_
              refine g_callS (av := [.int x, .int (nI (n + 1))]) C dX2_finds_92 ln_X2_40 mf_X2_worth (kX2_worth K (mW K bd (M.1, M.2.1, M.2.2.1, M.2.2.2.1, M.2.2.2.2.1, M.2.2.2.2.2.1, nI (n + 1), x, M.2.2.2.2.2.2.2.2.1, M.2.2.2.2.2.2.2.2.2) X) x (n + 1) (by omega)) rfl rfl (Nat.le_of_ble_eq_true rfl) ⟨Nat.le_of_ble_eq_true rfl, Nat.le_of_ble_eq_true rfl⟩ ⟨Nat.zero_le _, Nat.zero_le _⟩ (fun _ => ?_)
              refine g_lstore (lv2 := [(0, .ref (bd 0)), (1, .int (bz hl)), (2, .long lo), (4, .int (bz hh)), (5, .long hi), (7, .long (wM x (n + 1)))]) C dX2_finds_95 (by decide) rfl ?_
              refine g_goto (tgt := 13) C dX2_finds_97 (by decide) ?_
              exact g_lvs [0, 1, 2, 3, 4, 5] rfl (ihlo (n + 1) _ _ (by have := n24 c43_4 (by omega); omega) (by omega) rfl (by rw [← hlo3, fnS_s (n := n) (by omega), c14_1, cond_false, c26_2, cond_true, if_neg c33_3, if_neg c43_4]))
            · skip
              refine g_iconst (v := 0) C dX2_finds_46 (by decide) ?_
              exact hR _ _ _ _ () dX2_finds_47 (by rw [mFin, ← hlo3, fnS_s (n := n) (by omega), c14_1, cond_false, c26_2, cond_true, if_neg c33_3, if_pos c43_4] <;> rfl) (by show _ = mW K bd (mFin M hl lo hh hi).2 X; rw [mFin, ← hlo3, fnS_s (n := n) (by omega), c14_1, cond_false, c26_2, cond_true, if_neg c33_3, if_pos c43_4] <;> rfl)
      · skip
        refine g_lload C dX2_finds_17 rfl ?_
        refine g_lload_n (i := 2) C dX2_finds_19 rfl rfl ?_
        refine g_lcmp_le (tgt := 37) C dX2_finds_20 dX2_finds_21 (by decide) (fun c20_5 => ?_) (fun c20_5 => ?_)
        · skip
          refine g_aload_n (i := 0) C dX2_finds_37 rfl rfl ?_
          refine g_get C dX2_finds_38 fl_X2_44 0 rfl rfl ?_
          refine g_bipush (v := 24) C dX2_finds_41 (by decide) ?_
          refine g_icmp_ne (tgt := 48) C dX2_finds_43 (by decide) (fun c43_6 => ?_) (fun c43_6 => ?_)
          · skip
            refine g_iload_n (i := 1) C dX2_finds_48 rfl rfl ?_
            refine g_bz_eq (tgt := 74) C dX2_finds_49 (by decide) (fun q => absurd (c14_1.symm.trans q) (by decide)) (fun _ => ?_)
            refine g_lload C dX2_finds_52 rfl ?_
            refine g_lload_n (i := 2) C dX2_finds_54 rfl rfl ?_
            refine g_lcmp_gt (tgt := 74) C dX2_finds_55 dX2_finds_56 (by decide) (fun c55_7 => absurd c55_7 (Int64.not_lt.mpr c20_5)) (fun c55_7 => ?_)
            refine g_aload_n (i := 0) C dX2_finds_59 rfl rfl ?_
            refine g_dup C dX2_finds_60 rfl ?_
            refine g_get C dX2_finds_61 fl_X2_47 0 rfl rfl ?_
            refine g_iconst (v := 1) C dX2_finds_64 (by decide) ?_
            refine g_aload_n (i := 0) C dX2_finds_65 rfl rfl ?_
            refine g_get C dX2_finds_66 fl_X2_44 0 rfl rfl ?_
            refine g_ishl C dX2_finds_69 ?_
            refine g_ior C dX2_finds_70 ?_
            refine g_put (Wd2 := mW K bd (M.1, M.2.1, M.2.2.1, M.2.2.2.1, M.2.2.2.2.1, M.2.2.2.2.2.1, nI n, x ||| (1 <<< ((nI n) &&& 31)), M.2.2.2.2.2.2.2.2.1, M.2.2.2.2.2.2.2.2.2) X) C dX2_finds_71 fp_X2_47 0 rfl rfl rfl (Nat.le_of_ble_eq_true rfl) rfl ?_
            refine g_aload_n (i := 0) C dX2_finds_74 rfl rfl ?_
            refine g_dup C dX2_finds_75 rfl ?_
            refine g_get C dX2_finds_76 fl_X2_44 0 rfl rfl ?_
            refine g_iconst (v := 1) C dX2_finds_79 (by decide) ?_
            refine g_iadd C dX2_finds_80 ?_
            refine g_eqi (show nI n + 1 = nI (n + 1) from nI_1 n) ?_
            refine g_put (Wd2 := mW K bd (M.1, M.2.1, M.2.2.1, M.2.2.2.1, M.2.2.2.2.1, M.2.2.2.2.2.1, nI (n + 1), x ||| (1 <<< ((nI n) &&& 31)), M.2.2.2.2.2.2.2.2.1, M.2.2.2.2.2.2.2.2.2) X) C dX2_finds_81 fp_X2_44 0 rfl rfl rfl (Nat.le_of_ble_eq_true rfl) rfl ?_
            refine g_aload_n (i := 0) C dX2_finds_84 rfl rfl ?_
            refine g_get C dX2_finds_85 fl_X2_47 0 rfl rfl ?_
            refine g_aload_n (i := 0) C dX2_finds_88 rfl rfl ?_
            refine g_get C dX2_finds_89 fl_X2_44 0 rfl rfl ?_
            refine g_callS (av := [.int (x ||| (1 <<< ((nI n) &&& 31))), .int (nI (n + 1))]) C dX2_finds_92 ln_X2_40 mf_X2_worth (kX2_worth K (mW K bd (M.1, M.2.1, M.2.2.1, M.2.2.2.1, M.2.2.2.2.1, M.2.2.2.2.2.1, nI (n + 1), x ||| (1 <<< ((nI n) &&& 31)), M.2.2.2.2.2.2.2.2.1, M.2.2.2.2.2.2.2.2.2) X) (x ||| (1 <<< ((nI n) &&& 31))) (n + 1) (by omega)) rfl rfl (Nat.le_of_ble_eq_true rfl) ⟨Nat.le_of_ble_eq_true rfl, Nat.le_of_ble_eq_true rfl⟩ ⟨Nat.zero_le _, Nat.zero_le _⟩ (fun _ => ?_)
            refine g_lstore (lv2 := [(0, .ref (bd 0)), (1, .int (bz hl)), (2, .long lo), (4, .int (bz hh)), (5, .long hi), (7, .long (wM (x ||| (1 <<< ((nI n) &&& 31))) (n + 1)))]) C dX2_finds_95 (by decide) rfl ?_
            refine g_goto (tgt := 13) C dX2_finds_97 (by decide) ?_
            exact g_lvs [0, 1, 2, 3, 4, 5] rfl (ihlo (n + 1) _ _ (by have := n24 c43_6 (by omega); omega) (by omega) rfl (by rw [← hlo3, fnS_s (n := n) (by omega), c14_1, cond_true, if_pos c20_5, if_neg c43_6]))
          · skip
            refine g_iconst (v := 0) C dX2_finds_46 (by decide) ?_
            exact hR _ _ _ _ () dX2_finds_47 (by rw [mFin, ← hlo3, fnS_s (n := n) (by omega), c14_1, cond_true, if_pos c20_5, if_pos c43_6] <;> rfl) (by show _ = mW K bd (mFin M hl lo hh hi).2 X; rw [mFin, ← hlo3, fnS_s (n := n) (by omega), c14_1, cond_true, if_pos c20_5, if_pos c43_6] <;> rfl)
        · skip
          refine g_iload C dX2_finds_24 rfl ?_
          refine g_bz_eq (tgt := 100) C dX2_finds_26 (by decide) (fun c26_8 => ?_) (fun c26_8 => ?_)
          · skip
            refine g_iconst (v := 1) C dX2_finds_100 (by decide) ?_
            exact hR _ _ _ _ () dX2_finds_101 (by rw [mFin, ← hlo3, fnS_s (n := n) (by omega), c14_1, cond_true, if_neg c20_5, c26_8, cond_false] <;> rfl) (by show _ = mW K bd (mFin M hl lo hh hi).2 X; rw [mFin, ← hlo3, fnS_s (n := n) (by omega), c14_1, cond_true, if_neg c20_5, c26_8, cond_false] <;> rfl)
          · skip
            refine g_lload C dX2_finds_29 rfl ?_
            refine g_lload C dX2_finds_31 rfl ?_
            refine g_lcmp_lt (tgt := 100) C dX2_finds_33 dX2_finds_34 (by decide) (fun c33_9 => ?_) (fun c33_9 => ?_)
            · skip
              refine g_iconst (v := 1) C dX2_finds_100 (by decide) ?_
              exact hR _ _ _ _ () dX2_finds_101 (by rw [mFin, ← hlo3, fnS_s (n := n) (by omega), c14_1, cond_true, if_neg c20_5, c26_8, cond_true, if_pos c33_9] <;> rfl) (by show _ = mW K bd (mFin M hl lo hh hi).2 X; rw [mFin, ← hlo3, fnS_s (n := n) (by omega), c14_1, cond_true, if_neg c20_5, c26_8, cond_true, if_pos c33_9] <;> rfl)
            · skip
              refine g_aload_n (i := 0) C dX2_finds_37 rfl rfl ?_
              refine g_get C dX2_finds_38 fl_X2_44 0 rfl rfl ?_
              refine g_bipush (v := 24) C dX2_finds_41 (by decide) ?_
              refine g_icmp_ne (tgt := 48) C dX2_finds_43 (by decide) (fun c43_10 => ?_) (fun c43_10 => ?_)
              · skip
                refine g_iload_n (i := 1) C dX2_finds_48 rfl rfl ?_
                refine g_bz_eq (tgt := 74) C dX2_finds_49 (by decide) (fun q => absurd (c14_1.symm.trans q) (by decide)) (fun _ => ?_)
                refine g_lload C dX2_finds_52 rfl ?_
                refine g_lload_n (i := 2) C dX2_finds_54 rfl rfl ?_
                refine g_lcmp_gt (tgt := 74) C dX2_finds_55 dX2_finds_56 (by decide) (fun c55_11 => ?_) (fun c55_11 => absurd (Int64.not_le.mp c20_5) c55_11)
                refine g_aload_n (i := 0) C dX2_finds_74 rfl rfl ?_
                refine g_dup C dX2_finds_75 rfl ?_
                refine g_get C dX2_finds_76 fl_X2_44 0 rfl rfl ?_
                refine g_iconst (v := 1) C dX2_finds_79 (by decide) ?_
                refine g_iadd C dX2_finds_80 ?_
                refine g_eqi (show nI n + 1 = nI (n + 1) from nI_1 n) ?_
                refine g_put (Wd2 := mW K bd (M.1, M.2.1, M.2.2.1, M.2.2.2.1, M.2.2.2.2.1, M.2.2.2.2.2.1, nI (n + 1), x, M.2.2.2.2.2.2.2.2.1, M.2.2.2.2.2.2.2.2.2) X) C dX2_finds_81 fp_X2_44 0 rfl rfl rfl (Nat.le_of_ble_eq_true rfl) rfl ?_
                refine g_aload_n (i := 0) C dX2_finds_84 rfl rfl ?_
                refine g_get C dX2_finds_85 fl_X2_47 0 rfl rfl ?_
                refine g_aload_n (i := 0) C dX2_finds_88 rfl rfl ?_
                refine g_get C dX2_finds_89 fl_X2_44 0 rfl rfl ?_
                refine g_callS (av := [.int x, .int (nI (n + 1))]) C dX2_finds_92 ln_X2_40 mf_X2_worth (kX2_worth K (mW K bd (M.1, M.2.1, M.2.2.1, M.2.2.2.1, M.2.2.2.2.1, M.2.2.2.2.2.1, nI (n + 1), x, M.2.2.2.2.2.2.2.2.1, M.2.2.2.2.2.2.2.2.2) X) x (n + 1) (by omega)) rfl rfl (Nat.le_of_ble_eq_true rfl) ⟨Nat.le_of_ble_eq_true rfl, Nat.le_of_ble_eq_true rfl⟩ ⟨Nat.zero_le _, Nat.zero_le _⟩ (fun _ => ?_)
                refine g_lstore (lv2 := [(0, .ref (bd 0)), (1, .int (bz hl)), (2, .long lo), (4, .int (bz hh)), (5, .long hi), (7, .long (wM x (n + 1)))]) C dX2_finds_95 (by decide) rfl ?_
                refine g_goto (tgt := 13) C dX2_finds_97 (by decide) ?_
                exact g_lvs [0, 1, 2, 3, 4, 5] rfl (ihlo (n + 1) _ _ (by have := n24 c43_10 (by omega); omega) (by omega) rfl (by rw [← hlo3, fnS_s (n := n) (by omega), c14_1, cond_true, if_neg c20_5, c26_8, cond_true, if_neg c33_9, if_neg c43_10]))
              · skip
                refine g_iconst (v := 0) C dX2_finds_46 (by decide) ?_
                exact hR _ _ _ _ () dX2_finds_47 (by rw [mFin, ← hlo3, fnS_s (n := n) (by omega), c14_1, cond_true, if_neg c20_5, c26_8, cond_true, if_neg c33_9, if_pos c43_10] <;> rfl) (by show _ = mW K bd (mFin M hl lo hh hi).2 X; rw [mFin, ← hlo3, fnS_s (n := n) (by omega), c14_1, cond_true, if_neg c20_5, c26_8, cond_true, if_neg c33_9, if_pos c43_10] <;> rfl)
  exact g_lvs [0, 1, 2, 3, 4, 5] rfl (lo 25 0 0 0 (by omega) (by omega) rfl rfl)

set_option maxHeartbeats 600000 in
set_option maxRecDepth 100000 in
theorem kX2_has (K : KT) (bd : Nat → Nat) (M : MSt) (X : va_W) (a : Int64) (k : Nat) (hk : k < 2 ^ 31) : ∀ lau : Launch, Con lau yX2_has cX2_has 11 (some .boolean) 1 28 K (mW K bd M X) (fun _ : Unit => mW K bd ((mHas M a k).2) X) [.ref (bd 0), .long a, .int (nI k)] (some (.int (bz (mHas M a k).1))) := by
  refine conZ (by decide) (Nat.le_of_ble_eq_true rfl) (fun E C hR => ?_)
  show G E K 0 0 (mW K bd M X) [(0, .ref (bd 0)), (1, .long a), (3, .int (nI k))] 0 []
  refine g_lload_n (i := 1) C dX2_has_0 rfl rfl ?_
  refine g_lstore (lv2 := [(0, .ref (bd 0)), (1, .long a), (3, .int (nI k)), (4, .long a)]) C dX2_has_1 (by decide) rfl ?_
  refine g_iload_n (i := 3) C dX2_has_3 rfl rfl ?_
  refine g_istore (lv2 := [(0, .ref (bd 0)), (1, .long a), (3, .int (nI k)), (4, .long a), (6, .int (nI k))]) C dX2_has_4 (by decide) rfl ?_
  have lp : ∀ (fuel : Nat) (j : Nat) (u : Int64), j ≤ k → j < fuel → rdM j u = rdM k a → G E K 0 0 (mW K bd M X) [(0, .ref (bd 0)), (1, .long a), (3, .int (nI k)), (4, .long u), (6, .int (nI j))] 6 [] := by
    intro fuel
    induction fuel with
    | zero =>
      intro j u hlp0 hlp1 hlp2
      omega
    | succ fuel ihlp =>
      intro j u hlp0 hlp1 hlp2
      refine g_iload C dX2_has_6 rfl ?_
      refine g_if_le (tgt := 36) C dX2_has_8 (by decide) (fun c8_1 => ?_) (fun c8_1 => ?_)
      · skip
        have ej : j = 0 := nz0 c8_1 (by omega)
        subst ej
        have er : rdM k a = (u, 0) := hlp2.symm
        refine g_iload C dX2_has_36 rfl ?_
        refine g_bipush (v := 23) C dX2_has_38 (by decide) ?_
        refine g_icmp_gt (tgt := 68) C dX2_has_40 (by decide) (fun c40_2 => ?_) (fun c40_2 => ?_)
        · skip
          refine g_iconst (v := 0) C dX2_has_68 (by decide) ?_
          exact hR _ _ _ _ () dX2_has_69 (by rw [mHas, er, hasR, if_pos c40_2] <;> rfl) (by show _ = mW K bd (mHas M a k).2 X; rw [mHas, er, hasR, if_pos c40_2] <;> rfl)
        · skip
          refine g_lload C dX2_has_43 rfl ?_
          refine g_ldc2 (v := 25) C dX2_has_45 kc_X2_50 ?_
          refine g_iload C dX2_has_48 rfl ?_
          refine g_lshl (v := shlL 25 (nI 0)) C dX2_has_50 rfl ?_
          refine g_lcmp_gt (tgt := 68) C dX2_has_51 dX2_has_52 (by decide) (fun c51_3 => ?_) (fun c51_3 => ?_)
          · skip
            refine g_iconst (v := 0) C dX2_has_68 (by decide) ?_
            exact hR _ _ _ _ () dX2_has_69 (by rw [mHas, er, hasR, if_neg c40_2, if_pos c51_3] <;> rfl) (by show _ = mW K bd (mHas M a k).2 X; rw [mHas, er, hasR, if_neg c40_2, if_pos c51_3] <;> rfl)
          · skip
            refine g_lload C dX2_has_55 rfl ?_
            refine g_ldc2 (v := 25) C dX2_has_57 kc_X2_50 ?_
            refine g_iload C dX2_has_60 rfl ?_
            refine g_lshl (v := shlL 25 (nI 0)) C dX2_has_62 rfl ?_
            refine g_lneg C dX2_has_63 ?_
            refine g_lcmp_ge (tgt := 70) C dX2_has_64 dX2_has_65 (by decide) (fun c64_4 => ?_) (fun c64_4 => ?_)
            · skip
              refine g_lload C dX2_has_70 rfl ?_
              refine g_ldc2 (v := 16777216) C dX2_has_72 kc_X2_36 ?_
              refine g_iload C dX2_has_75 rfl ?_
              refine g_lshr (v := shrL 16777216 (nI 0)) C dX2_has_77 rfl ?_
              refine g_lmul C dX2_has_78 ?_
              refine g_lstore (lv2 := [(0, .ref (bd 0)), (1, .long a), (3, .int (nI k)), (4, .long u), (6, .int (nI 0)), (7, .long (u * (shrL 16777216 (nI 0))))]) C dX2_has_79 (by decide) rfl ?_
              refine g_aload_n (i := 0) C dX2_has_81 rfl rfl ?_
              refine g_iconst (v := 0) C dX2_has_82 (by decide) ?_
              refine g_put (Wd2 := mW K bd (M.1, M.2.1, M.2.2.1, M.2.2.2.1, M.2.2.2.2.1, M.2.2.2.2.2.1, 0, M.2.2.2.2.2.2.2.1, M.2.2.2.2.2.2.2.2.1, M.2.2.2.2.2.2.2.2.2) X) C dX2_has_83 fp_X2_44 0 rfl rfl rfl (Nat.le_of_ble_eq_true rfl) rfl ?_
              refine g_aload_n (i := 0) C dX2_has_86 rfl rfl ?_
              refine g_iconst (v := 0) C dX2_has_87 (by decide) ?_
              refine g_put (Wd2 := mW K bd (M.1, M.2.1, M.2.2.1, M.2.2.2.1, M.2.2.2.2.1, M.2.2.2.2.2.1, 0, 0, M.2.2.2.2.2.2.2.2.1, M.2.2.2.2.2.2.2.2.2) X) C dX2_has_88 fp_X2_47 0 rfl rfl rfl (Nat.le_of_ble_eq_true rfl) rfl ?_
              refine g_lconst (v := 0) C dX2_has_91 (by decide) ?_
              refine g_lstore (lv2 := [(0, .ref (bd 0)), (1, .long a), (3, .int (nI k)), (4, .long u), (6, .int (nI 0)), (7, .long (u * (shrL 16777216 (nI 0)))), (9, .long 0)]) C dX2_has_92 (by decide) rfl ?_
              obtain ⟨v, hv⟩ : ∃ v, v = u * (shrL 16777216 (nI 0)) := ⟨_, rfl⟩
              rw [← hv]
              have lo : ∀ (fuel2 : Nat) (n : Nat) (x : Int32) (z : Int64), n ≤ 24 → 24 < n + fuel2 → z = wM x n → hsM v (25 - n) n x = hsM v 25 0 0 → G E K 0 0 (mW K bd (M.1, M.2.1, M.2.2.1, M.2.2.2.1, M.2.2.2.2.1, M.2.2.2.2.2.1, nI n, x, M.2.2.2.2.2.2.2.2.1, M.2.2.2.2.2.2.2.2.2) X) [(0, .ref (bd 0)), (1, .long a), (3, .int (nI k)), (4, .long u), (6, .int (nI 0)), (7, .long v), (9, .long z)] 94 [] := by
                intro fuel2
                induction fuel2 with
                | zero =>
                  intro n x z hlo0 hlo1 hlo2 hlo3
                  omega
                | succ fuel2 ihlo =>
                  intro n x z hlo0 hlo1 hlo2 hlo3
                  subst hlo2
                  refine g_lload C dX2_has_94 rfl ?_
                  refine g_lload C dX2_has_96 rfl ?_
                  refine g_lcmp_eq (tgt := 162) C dX2_has_98 dX2_has_99 (by decide) (fun c98_5 => ?_) (fun c98_5 => ?_)
                  · skip
                    refine g_iconst (v := 1) C dX2_has_162 (by decide) ?_
                    exact hR _ _ _ _ () dX2_has_163 (by rw [mHas, er, hasR, if_neg c40_2, if_neg c51_3, if_pos c64_4, ← hv, hasV, ← hlo3, hsM_s (n := n) (by omega), if_pos c98_5] <;> rfl) (by show _ = mW K bd (mHas M a k).2 X; rw [mHas, er, hasR, if_neg c40_2, if_neg c51_3, if_pos c64_4, ← hv, hasV, ← hlo3, hsM_s (n := n) (by omega), if_pos c98_5] <;> rfl)
                  · skip
                    refine g_aload_n (i := 0) C dX2_has_102 rfl rfl ?_
                    refine g_get C dX2_has_103 fl_X2_44 0 rfl rfl ?_
                    refine g_bipush (v := 24) C dX2_has_106 (by decide) ?_
                    refine g_icmp_ne (tgt := 113) C dX2_has_108 (by decide) (fun c108_6 => ?_) (fun c108_6 => ?_)
                    · skip
                      refine g_lload C dX2_has_113 rfl ?_
                      refine g_lload C dX2_has_115 rfl ?_
                      refine g_lcmp_ge (tgt := 136) C dX2_has_117 dX2_has_118 (by decide) (fun c117_7 => ?_) (fun c117_7 => ?_)
                      · skip
                        refine g_aload_n (i := 0) C dX2_has_136 rfl rfl ?_
                        refine g_dup C dX2_has_137 rfl ?_
                        refine g_get C dX2_has_138 fl_X2_44 0 rfl rfl ?_
                        refine g_iconst (v := 1) C dX2_has_141 (by decide) ?_
                        refine g_iadd C dX2_has_142 ?_
                        refine g_eqi (show nI n + 1 = nI (n + 1) from nI_1 n) ?_
                        refine g_put (Wd2 := mW K bd (M.1, M.2.1, M.2.2.1, M.2.2.2.1, M.2.2.2.2.1, M.2.2.2.2.2.1, nI (n + 1), x, M.2.2.2.2.2.2.2.2.1, M.2.2.2.2.2.2.2.2.2) X) C dX2_has_143 fp_X2_44 0 rfl rfl rfl (Nat.le_of_ble_eq_true rfl) rfl ?_
                        refine g_aload_n (i := 0) C dX2_has_146 rfl rfl ?_
                        refine g_get C dX2_has_147 fl_X2_47 0 rfl rfl ?_
                        refine g_aload_n (i := 0) C dX2_has_150 rfl rfl ?_
                        refine g_get C dX2_has_151 fl_X2_44 0 rfl rfl ?_
                        refine g_callS (av := [.int x, .int (nI (n + 1))]) C dX2_has_154 ln_X2_40 mf_X2_worth (kX2_worth K (mW K bd (M.1, M.2.1, M.2.2.1, M.2.2.2.1, M.2.2.2.2.1, M.2.2.2.2.2.1, nI (n + 1), x, M.2.2.2.2.2.2.2.2.1, M.2.2.2.2.2.2.2.2.2) X) x (n + 1) (by omega)) rfl rfl (Nat.le_of_ble_eq_true rfl) ⟨Nat.le_of_ble_eq_true rfl, Nat.le_of_ble_eq_true rfl⟩ ⟨Nat.zero_le _, Nat.zero_le _⟩ (fun _ => ?_)
                        refine g_lstore (lv2 := [(0, .ref (bd 0)), (1, .long a), (3, .int (nI k)), (4, .long u), (6, .int (nI 0)), (7, .long v), (9, .long (wM x (n + 1)))]) C dX2_has_157 (by decide) rfl ?_
                        refine g_goto (tgt := 94) C dX2_has_159 (by decide) ?_
                        exact g_lvs [0, 1, 2, 3, 4, 5, 6] rfl (ihlo (n + 1) _ _ (by have := n24 c108_6 (by omega); omega) (by omega) rfl (by rw [← hlo3, hsM_s (n := n) (by omega), if_neg c98_5, if_neg c108_6, if_pos c117_7]))
                      · skip
                        refine g_aload_n (i := 0) C dX2_has_121 rfl rfl ?_
                        refine g_dup C dX2_has_122 rfl ?_
                        refine g_get C dX2_has_123 fl_X2_47 0 rfl rfl ?_
                        refine g_iconst (v := 1) C dX2_has_126 (by decide) ?_
                        refine g_aload_n (i := 0) C dX2_has_127 rfl rfl ?_
                        refine g_get C dX2_has_128 fl_X2_44 0 rfl rfl ?_
                        refine g_ishl C dX2_has_131 ?_
                        refine g_ior C dX2_has_132 ?_
                        refine g_put (Wd2 := mW K bd (M.1, M.2.1, M.2.2.1, M.2.2.2.1, M.2.2.2.2.1, M.2.2.2.2.2.1, nI n, x ||| (1 <<< ((nI n) &&& 31)), M.2.2.2.2.2.2.2.2.1, M.2.2.2.2.2.2.2.2.2) X) C dX2_has_133 fp_X2_47 0 rfl rfl rfl (Nat.le_of_ble_eq_true rfl) rfl ?_
                        refine g_aload_n (i := 0) C dX2_has_136 rfl rfl ?_
                        refine g_dup C dX2_has_137 rfl ?_
                        refine g_get C dX2_has_138 fl_X2_44 0 rfl rfl ?_
                        refine g_iconst (v := 1) C dX2_has_141 (by decide) ?_
                        refine g_iadd C dX2_has_142 ?_
                        refine g_eqi (show nI n + 1 = nI (n + 1) from nI_1 n) ?_
                        refine g_put (Wd2 := mW K bd (M.1, M.2.1, M.2.2.1, M.2.2.2.1, M.2.2.2.2.1, M.2.2.2.2.2.1, nI (n + 1), x ||| (1 <<< ((nI n) &&& 31)), M.2.2.2.2.2.2.2.2.1, M.2.2.2.2.2.2.2.2.2) X) C dX2_has_143 fp_X2_44 0 rfl rfl rfl (Nat.le_of_ble_eq_true rfl) rfl ?_
                        refine g_aload_n (i := 0) C dX2_has_146 rfl rfl ?_
                        refine g_get C dX2_has_147 fl_X2_47 0 rfl rfl ?_
                        refine g_aload_n (i := 0) C dX2_has_150 rfl rfl ?_
                        refine g_get C dX2_has_151 fl_X2_44 0 rfl rfl ?_
                        refine g_callS (av := [.int (x ||| (1 <<< ((nI n) &&& 31))), .int (nI (n + 1))]) C dX2_has_154 ln_X2_40 mf_X2_worth (kX2_worth K (mW K bd (M.1, M.2.1, M.2.2.1, M.2.2.2.1, M.2.2.2.2.1, M.2.2.2.2.2.1, nI (n + 1), x ||| (1 <<< ((nI n) &&& 31)), M.2.2.2.2.2.2.2.2.1, M.2.2.2.2.2.2.2.2.2) X) (x ||| (1 <<< ((nI n) &&& 31))) (n + 1) (by omega)) rfl rfl (Nat.le_of_ble_eq_true rfl) ⟨Nat.le_of_ble_eq_true rfl, Nat.le_of_ble_eq_true rfl⟩ ⟨Nat.zero_le _, Nat.zero_le _⟩ (fun _ => ?_)
                        refine g_lstore (lv2 := [(0, .ref (bd 0)), (1, .long a), (3, .int (nI k)), (4, .long u), (6, .int (nI 0)), (7, .long v), (9, .long (wM (x ||| (1 <<< ((nI n) &&& 31))) (n + 1)))]) C dX2_has_157 (by decide) rfl ?_
                        refine g_goto (tgt := 94) C dX2_has_159 (by decide) ?_
                        exact g_lvs [0, 1, 2, 3, 4, 5, 6] rfl (ihlo (n + 1) _ _ (by have := n24 c108_6 (by omega); omega) (by omega) rfl (by rw [← hlo3, hsM_s (n := n) (by omega), if_neg c98_5, if_neg c108_6, if_neg c117_7]))
                    · skip
                      refine g_iconst (v := 0) C dX2_has_111 (by decide) ?_
                      exact hR _ _ _ _ () dX2_has_112 (by rw [mHas, er, hasR, if_neg c40_2, if_neg c51_3, if_pos c64_4, ← hv, hasV, ← hlo3, hsM_s (n := n) (by omega), if_neg c98_5, if_pos c108_6] <;> rfl) (by show _ = mW K bd (mHas M a k).2 X; rw [mHas, er, hasR, if_neg c40_2, if_neg c51_3, if_pos c64_4, ← hv, hasV, ← hlo3, hsM_s (n := n) (by omega), if_neg c98_5, if_pos c108_6] <;> rfl)
              exact g_lvs [0, 1, 2, 3, 4, 5, 6] rfl (lo 25 0 0 0 (by omega) (by omega) rfl rfl)
            · skip
              refine g_iconst (v := 0) C dX2_has_68 (by decide) ?_
              exact hR _ _ _ _ () dX2_has_69 (by rw [mHas, er, hasR, if_neg c40_2, if_neg c51_3, if_neg c64_4] <;> rfl) (by show _ = mW K bd (mHas M a k).2 X; rw [mHas, er, hasR, if_neg c40_2, if_neg c51_3, if_neg c64_4] <;> rfl)
      · skip
        obtain ⟨j2, rfl⟩ := nz c8_1
        refine g_lload C dX2_has_11 rfl ?_
        refine g_ldc2 (v := 2) C dX2_has_13 kc_X2_38 ?_
        refine g_lrem C dX2_has_16 (by decide) ?_
        refine g_lconst (v := 0) C dX2_has_17 (by decide) ?_
        refine g_lcmp_ne (tgt := 36) C dX2_has_18 dX2_has_19 (by decide) (fun c18_8 => ?_) (fun c18_8 => ?_)
        · skip
          have er : rdM k a = (u, j2 + 1) := by rw [← hlp2, rdM, if_neg c18_8]
          generalize j2 + 1 = k2 at er hlp0 ⊢
          refine g_iload C dX2_has_36 rfl ?_
          refine g_bipush (v := 23) C dX2_has_38 (by decide) ?_
          refine g_icmp_gt (tgt := 68) C dX2_has_40 (by decide) (fun c40_9 => ?_) (fun c40_9 => ?_)
          · skip
            refine g_iconst (v := 0) C dX2_has_68 (by decide) ?_
            exact hR _ _ _ _ () dX2_has_69 (by rw [mHas, er, hasR, if_pos c40_9] <;> rfl) (by show _ = mW K bd (mHas M a k).2 X; rw [mHas, er, hasR, if_pos c40_9] <;> rfl)
          · skip
            refine g_lload C dX2_has_43 rfl ?_
            refine g_ldc2 (v := 25) C dX2_has_45 kc_X2_50 ?_
            refine g_iload C dX2_has_48 rfl ?_
            refine g_lshl (v := shlL 25 (nI k2)) C dX2_has_50 rfl ?_
            refine g_lcmp_gt (tgt := 68) C dX2_has_51 dX2_has_52 (by decide) (fun c51_10 => ?_) (fun c51_10 => ?_)
            · skip
              refine g_iconst (v := 0) C dX2_has_68 (by decide) ?_
              exact hR _ _ _ _ () dX2_has_69 (by rw [mHas, er, hasR, if_neg c40_9, if_pos c51_10] <;> rfl) (by show _ = mW K bd (mHas M a k).2 X; rw [mHas, er, hasR, if_neg c40_9, if_pos c51_10] <;> rfl)
            · skip
              refine g_lload C dX2_has_55 rfl ?_
              refine g_ldc2 (v := 25) C dX2_has_57 kc_X2_50 ?_
              refine g_iload C dX2_has_60 rfl ?_
              refine g_lshl (v := shlL 25 (nI k2)) C dX2_has_62 rfl ?_
              refine g_lneg C dX2_has_63 ?_
              refine g_lcmp_ge (tgt := 70) C dX2_has_64 dX2_has_65 (by decide) (fun c64_11 => ?_) (fun c64_11 => ?_)
              · skip
                refine g_lload C dX2_has_70 rfl ?_
                refine g_ldc2 (v := 16777216) C dX2_has_72 kc_X2_36 ?_
                refine g_iload C dX2_has_75 rfl ?_
                refine g_lshr (v := shrL 16777216 (nI k2)) C dX2_has_77 rfl ?_
                refine g_lmul C dX2_has_78 ?_
                refine g_lstore (lv2 := [(0, .ref (bd 0)), (1, .long a), (3, .int (nI k)), (4, .long u), (6, .int (nI k2)), (7, .long (u * (shrL 16777216 (nI k2))))]) C dX2_has_79 (by decide) rfl ?_
                refine g_aload_n (i := 0) C dX2_has_81 rfl rfl ?_
                refine g_iconst (v := 0) C dX2_has_82 (by decide) ?_
                refine g_put (Wd2 := mW K bd (M.1, M.2.1, M.2.2.1, M.2.2.2.1, M.2.2.2.2.1, M.2.2.2.2.2.1, 0, M.2.2.2.2.2.2.2.1, M.2.2.2.2.2.2.2.2.1, M.2.2.2.2.2.2.2.2.2) X) C dX2_has_83 fp_X2_44 0 rfl rfl rfl (Nat.le_of_ble_eq_true rfl) rfl ?_
                refine g_aload_n (i := 0) C dX2_has_86 rfl rfl ?_
                refine g_iconst (v := 0) C dX2_has_87 (by decide) ?_
                refine g_put (Wd2 := mW K bd (M.1, M.2.1, M.2.2.1, M.2.2.2.1, M.2.2.2.2.1, M.2.2.2.2.2.1, 0, 0, M.2.2.2.2.2.2.2.2.1, M.2.2.2.2.2.2.2.2.2) X) C dX2_has_88 fp_X2_47 0 rfl rfl rfl (Nat.le_of_ble_eq_true rfl) rfl ?_
                refine g_lconst (v := 0) C dX2_has_91 (by decide) ?_
                refine g_lstore (lv2 := [(0, .ref (bd 0)), (1, .long a), (3, .int (nI k)), (4, .long u), (6, .int (nI k2)), (7, .long (u * (shrL 16777216 (nI k2)))), (9, .long 0)]) C dX2_has_92 (by decide) rfl ?_
                obtain ⟨v, hv⟩ : ∃ v, v = u * (shrL 16777216 (nI k2)) := ⟨_, rfl⟩
                rw [← hv]
                have lo : ∀ (fuel2 : Nat) (n : Nat) (x : Int32) (z : Int64), n ≤ 24 → 24 < n + fuel2 → z = wM x n → hsM v (25 - n) n x = hsM v 25 0 0 → G E K 0 0 (mW K bd (M.1, M.2.1, M.2.2.1, M.2.2.2.1, M.2.2.2.2.1, M.2.2.2.2.2.1, nI n, x, M.2.2.2.2.2.2.2.2.1, M.2.2.2.2.2.2.2.2.2) X) [(0, .ref (bd 0)), (1, .long a), (3, .int (nI k)), (4, .long u), (6, .int (nI k2)), (7, .long v), (9, .long z)] 94 [] := by
                  intro fuel2
                  induction fuel2 with
                  | zero =>
                    intro n x z hlo0 hlo1 hlo2 hlo3
                    omega
                  | succ fuel2 ihlo =>
                    intro n x z hlo0 hlo1 hlo2 hlo3
                    subst hlo2
                    refine g_lload C dX2_has_94 rfl ?_
                    refine g_lload C dX2_has_96 rfl ?_
                    refine g_lcmp_eq (tgt := 162) C dX2_has_98 dX2_has_99 (by decide) (fun c98_12 => ?_) (fun c98_12 => ?_)
                    · skip
                      refine g_iconst (v := 1) C dX2_has_162 (by decide) ?_
                      exact hR _ _ _ _ () dX2_has_163 (by rw [mHas, er, hasR, if_neg c40_9, if_neg c51_10, if_pos c64_11, ← hv, hasV, ← hlo3, hsM_s (n := n) (by omega), if_pos c98_12] <;> rfl) (by show _ = mW K bd (mHas M a k).2 X; rw [mHas, er, hasR, if_neg c40_9, if_neg c51_10, if_pos c64_11, ← hv, hasV, ← hlo3, hsM_s (n := n) (by omega), if_pos c98_12] <;> rfl)
                    · skip
                      refine g_aload_n (i := 0) C dX2_has_102 rfl rfl ?_
                      refine g_get C dX2_has_103 fl_X2_44 0 rfl rfl ?_
                      refine g_bipush (v := 24) C dX2_has_106 (by decide) ?_
                      refine g_icmp_ne (tgt := 113) C dX2_has_108 (by decide) (fun c108_13 => ?_) (fun c108_13 => ?_)
                      · skip
                        refine g_lload C dX2_has_113 rfl ?_
                        refine g_lload C dX2_has_115 rfl ?_
                        refine g_lcmp_ge (tgt := 136) C dX2_has_117 dX2_has_118 (by decide) (fun c117_14 => ?_) (fun c117_14 => ?_)
                        · skip
                          refine g_aload_n (i := 0) C dX2_has_136 rfl rfl ?_
                          refine g_dup C dX2_has_137 rfl ?_
                          refine g_get C dX2_has_138 fl_X2_44 0 rfl rfl ?_
                          refine g_iconst (v := 1) C dX2_has_141 (by decide) ?_
                          refine g_iadd C dX2_has_142 ?_
                          refine g_eqi (show nI n + 1 = nI (n + 1) from nI_1 n) ?_
                          refine g_put (Wd2 := mW K bd (M.1, M.2.1, M.2.2.1, M.2.2.2.1, M.2.2.2.2.1, M.2.2.2.2.2.1, nI (n + 1), x, M.2.2.2.2.2.2.2.2.1, M.2.2.2.2.2.2.2.2.2) X) C dX2_has_143 fp_X2_44 0 rfl rfl rfl (Nat.le_of_ble_eq_true rfl) rfl ?_
                          refine g_aload_n (i := 0) C dX2_has_146 rfl rfl ?_
                          refine g_get C dX2_has_147 fl_X2_47 0 rfl rfl ?_
                          refine g_aload_n (i := 0) C dX2_has_150 rfl rfl ?_
                          refine g_get C dX2_has_151 fl_X2_44 0 rfl rfl ?_
                          refine g_callS (av := [.int x, .int (nI (n + 1))]) C dX2_has_154 ln_X2_40 mf_X2_worth (kX2_worth K (mW K bd (M.1, M.2.1, M.2.2.1, M.2.2.2.1, M.2.2.2.2.1, M.2.2.2.2.2.1, nI (n + 1), x, M.2.2.2.2.2.2.2.2.1, M.2.2.2.2.2.2.2.2.2) X) x (n + 1) (by omega)) rfl rfl (Nat.le_of_ble_eq_true rfl) ⟨Nat.le_of_ble_eq_true rfl, Nat.le_of_ble_eq_true rfl⟩ ⟨Nat.zero_le _, Nat.zero_le _⟩ (fun _ => ?_)
                          refine g_lstore (lv2 := [(0, .ref (bd 0)), (1, .long a), (3, .int (nI k)), (4, .long u), (6, .int (nI k2)), (7, .long v), (9, .long (wM x (n + 1)))]) C dX2_has_157 (by decide) rfl ?_
                          refine g_goto (tgt := 94) C dX2_has_159 (by decide) ?_
                          exact g_lvs [0, 1, 2, 3, 4, 5, 6] rfl (ihlo (n + 1) _ _ (by have := n24 c108_13 (by omega); omega) (by omega) rfl (by rw [← hlo3, hsM_s (n := n) (by omega), if_neg c98_12, if_neg c108_13, if_pos c117_14]))
                        · skip
                          refine g_aload_n (i := 0) C dX2_has_121 rfl rfl ?_
                          refine g_dup C dX2_has_122 rfl ?_
                          refine g_get C dX2_has_123 fl_X2_47 0 rfl rfl ?_
                          refine g_iconst (v := 1) C dX2_has_126 (by decide) ?_
                          refine g_aload_n (i := 0) C dX2_has_127 rfl rfl ?_
                          refine g_get C dX2_has_128 fl_X2_44 0 rfl rfl ?_
                          refine g_ishl C dX2_has_131 ?_
                          refine g_ior C dX2_has_132 ?_
                          refine g_put (Wd2 := mW K bd (M.1, M.2.1, M.2.2.1, M.2.2.2.1, M.2.2.2.2.1, M.2.2.2.2.2.1, nI n, x ||| (1 <<< ((nI n) &&& 31)), M.2.2.2.2.2.2.2.2.1, M.2.2.2.2.2.2.2.2.2) X) C dX2_has_133 fp_X2_47 0 rfl rfl rfl (Nat.le_of_ble_eq_true rfl) rfl ?_
                          refine g_aload_n (i := 0) C dX2_has_136 rfl rfl ?_
                          refine g_dup C dX2_has_137 rfl ?_
                          refine g_get C dX2_has_138 fl_X2_44 0 rfl rfl ?_
                          refine g_iconst (v := 1) C dX2_has_141 (by decide) ?_
                          refine g_iadd C dX2_has_142 ?_
                          refine g_eqi (show nI n + 1 = nI (n + 1) from nI_1 n) ?_
                          refine g_put (Wd2 := mW K bd (M.1, M.2.1, M.2.2.1, M.2.2.2.1, M.2.2.2.2.1, M.2.2.2.2.2.1, nI (n + 1), x ||| (1 <<< ((nI n) &&& 31)), M.2.2.2.2.2.2.2.2.1, M.2.2.2.2.2.2.2.2.2) X) C dX2_has_143 fp_X2_44 0 rfl rfl rfl (Nat.le_of_ble_eq_true rfl) rfl ?_
                          refine g_aload_n (i := 0) C dX2_has_146 rfl rfl ?_
                          refine g_get C dX2_has_147 fl_X2_47 0 rfl rfl ?_
                          refine g_aload_n (i := 0) C dX2_has_150 rfl rfl ?_
                          refine g_get C dX2_has_151 fl_X2_44 0 rfl rfl ?_
                          refine g_callS (av := [.int (x ||| (1 <<< ((nI n) &&& 31))), .int (nI (n + 1))]) C dX2_has_154 ln_X2_40 mf_X2_worth (kX2_worth K (mW K bd (M.1, M.2.1, M.2.2.1, M.2.2.2.1, M.2.2.2.2.1, M.2.2.2.2.2.1, nI (n + 1), x ||| (1 <<< ((nI n) &&& 31)), M.2.2.2.2.2.2.2.2.1, M.2.2.2.2.2.2.2.2.2) X) (x ||| (1 <<< ((nI n) &&& 31))) (n + 1) (by omega)) rfl rfl (Nat.le_of_ble_eq_true rfl) ⟨Nat.le_of_ble_eq_true rfl, Nat.le_of_ble_eq_true rfl⟩ ⟨Nat.zero_le _, Nat.zero_le _⟩ (fun _ => ?_)
                          refine g_lstore (lv2 := [(0, .ref (bd 0)), (1, .long a), (3, .int (nI k)), (4, .long u), (6, .int (nI k2)), (7, .long v), (9, .long (wM (x ||| (1 <<< ((nI n) &&& 31))) (n + 1)))]) C dX2_has_157 (by decide) rfl ?_
                          refine g_goto (tgt := 94) C dX2_has_159 (by decide) ?_
                          exact g_lvs [0, 1, 2, 3, 4, 5, 6] rfl (ihlo (n + 1) _ _ (by have := n24 c108_13 (by omega); omega) (by omega) rfl (by rw [← hlo3, hsM_s (n := n) (by omega), if_neg c98_12, if_neg c108_13, if_neg c117_14]))
                      · skip
                        refine g_iconst (v := 0) C dX2_has_111 (by decide) ?_
                        exact hR _ _ _ _ () dX2_has_112 (by rw [mHas, er, hasR, if_neg c40_9, if_neg c51_10, if_pos c64_11, ← hv, hasV, ← hlo3, hsM_s (n := n) (by omega), if_neg c98_12, if_pos c108_13] <;> rfl) (by show _ = mW K bd (mHas M a k).2 X; rw [mHas, er, hasR, if_neg c40_9, if_neg c51_10, if_pos c64_11, ← hv, hasV, ← hlo3, hsM_s (n := n) (by omega), if_neg c98_12, if_pos c108_13] <;> rfl)
                exact g_lvs [0, 1, 2, 3, 4, 5, 6] rfl (lo 25 0 0 0 (by omega) (by omega) rfl rfl)
              · skip
                refine g_iconst (v := 0) C dX2_has_68 (by decide) ?_
                exact hR _ _ _ _ () dX2_has_69 (by rw [mHas, er, hasR, if_neg c40_9, if_neg c51_10, if_neg c64_11] <;> rfl) (by show _ = mW K bd (mHas M a k).2 X; rw [mHas, er, hasR, if_neg c40_9, if_neg c51_10, if_neg c64_11] <;> rfl)
        · skip
          refine g_lload C dX2_has_22 rfl ?_
          refine g_ldc2 (v := 2) C dX2_has_24 kc_X2_38 ?_
          refine g_ldiv C dX2_has_27 (by decide) ?_
          refine g_lstore (lv2 := [(0, .ref (bd 0)), (1, .long a), (3, .int (nI k)), (4, .long (u / 2)), (6, .int (nI (j2 + 1)))]) C dX2_has_28 (by decide) rfl ?_
          refine g_iinc (v := nI j2) (lv2 := [(0, .ref (bd 0)), (1, .long a), (3, .int (nI k)), (4, .long (u / 2)), (6, .int (nI j2))]) C dX2_has_30 rfl (decS j2) (by decide) rfl ?_
          refine g_goto (tgt := 6) C dX2_has_33 (by decide) ?_
          exact g_lvs [0, 1, 2, 3, 4] rfl (ihlp j2 _ (by omega) (by omega) (by rw [← hlp2, rdM, if_pos c18_8]))
  exact g_lvs [0, 1, 2, 3, 4] rfl (lp (k + 1) k a (Nat.le_refl _) (by omega) rfl)

set_option maxHeartbeats 600000 in
set_option maxRecDepth 100000 in
theorem kX2_keeps (K : KT) (bd : Nat → Nat) (M : MSt) (X : va_W) (s : Int32) (b : Bool) (hs : isReg s = true) : ∀ lau : Launch, Con lau yX2_keeps cX2_keeps 3 (some .int) 0 0 K (mW K bd M X) (fun _ : Unit => mW K bd ((keep M s b).2) X) [.ref (bd 0), .int s, .int (bz b)] (some (.int ((keep M s b).1))) := by
  refine conI (by decide) (Nat.le_of_ble_eq_true rfl) (fun E C hR => ?_)
  show G E K 0 0 (mW K bd M X) [(0, .ref (bd 0)), (1, .int s), (2, .int (bz b))] 0 []
  refine g_iload_n (i := 2) C dX2_keeps_0 rfl rfl ?_
  refine g_bz_ne (tgt := 7) C dX2_keeps_1 (by decide) (fun c1_1 => ?_) (fun c1_1 => ?_)
  · skip
    refine g_aload_n (i := 0) C dX2_keeps_7 rfl rfl ?_
    refine g_get C dX2_keeps_8 fl_X2_7 0 rfl rfl ?_
    refine g_iload_n (i := 1) C dX2_keeps_11 rfl rfl ?_
    refine g_aload_n (i := 0) C dX2_keeps_12 rfl rfl ?_
    refine g_get C dX2_keeps_13 fl_X2_44 0 rfl rfl ?_
    refine g_iast (Wd2 := mW K bd (upd M.1 s.toNatClampNeg M.2.2.2.2.2.2.1, M.2.1, M.2.2.1, M.2.2.2.1, M.2.2.2.2.1, M.2.2.2.2.2.1, M.2.2.2.2.2.2.1, M.2.2.2.2.2.2.2.1, M.2.2.2.2.2.2.2.2.1, M.2.2.2.2.2.2.2.2.2) X) C dX2_keeps_16 1 rfl (isReg_in hs) rfl ?_
    refine g_aload_n (i := 0) C dX2_keeps_17 rfl rfl ?_
    refine g_get C dX2_keeps_18 fl_X2_13 0 rfl rfl ?_
    refine g_iload_n (i := 1) C dX2_keeps_21 rfl rfl ?_
    refine g_aload_n (i := 0) C dX2_keeps_22 rfl rfl ?_
    refine g_get C dX2_keeps_23 fl_X2_47 0 rfl rfl ?_
    refine g_iast (Wd2 := mW K bd (upd M.1 s.toNatClampNeg M.2.2.2.2.2.2.1, upd M.2.1 s.toNatClampNeg M.2.2.2.2.2.2.2.1, M.2.2.1, M.2.2.2.1, M.2.2.2.2.1, M.2.2.2.2.2.1, M.2.2.2.2.2.2.1, M.2.2.2.2.2.2.2.1, M.2.2.2.2.2.2.2.2.1, M.2.2.2.2.2.2.2.2.2) X) C dX2_keeps_26 2 rfl (isReg_in hs) rfl ?_
    refine g_aload_n (i := 0) C dX2_keeps_27 rfl rfl ?_
    refine g_get C dX2_keeps_28 fl_X2_44 0 rfl rfl ?_
    exact hR _ _ _ _ () dX2_keeps_31 (by rw [keep, c1_1, cond_true]) (by show _ = mW K bd (keep M s b).2 X; rw [keep, c1_1, cond_true])
  · skip
    refine g_bipush (v := (-3)) C dX2_keeps_4 (by decide) ?_
    exact hR _ _ _ _ () dX2_keeps_6 (by rw [keep, c1_1, cond_false]) (by show _ = mW K bd (keep M s b).2 X; rw [keep, c1_1, cond_false])

set_option maxHeartbeats 600000 in
set_option maxRecDepth 100000 in
theorem kX2_row (K : KT) (bd : Nat → Nat) (M : MSt) (X : va_W) (s : Int32) (n : Int32) (x : Int32) : ∀ lau : Launch, Con lau yX2_row cX2_row 4 (some .int) 2 45 K (mW K bd M X) (fun _ : Unit => mW K bd ((mRow M s n x).2) X) [.ref (bd 0), .int s, .int n, .int x] (some (.int ((mRow M s n x).1))) := by
  refine conI (by decide) (Nat.le_of_ble_eq_true rfl) (fun E C hR => ?_)
  show G E K 0 0 (mW K bd M X) [(0, .ref (bd 0)), (1, .int s), (2, .int n), (3, .int x)] 0 []
  refine g_iload_n (i := 1) C dX2_row_0 rfl rfl ?_
  refine g_callS (av := [.int s]) C dX2_row_1 ln_X2_52 mf_X2_isRegister (kX2_isRegister K (mW K bd M X) s) rfl rfl (Nat.le_of_ble_eq_true rfl) ⟨Nat.le_of_ble_eq_true rfl, Nat.le_of_ble_eq_true rfl⟩ ⟨Nat.zero_le _, Nat.zero_le _⟩ (fun _ => ?_)
  refine g_bz_eq (tgt := 25) C dX2_row_4 (by decide) (fun c4_1 => ?_) (fun c4_1 => ?_)
  · skip
    refine g_iconst (v := (-1)) C dX2_row_25 (by decide) ?_
    exact hR _ _ _ _ () dX2_row_26 (by rw [mRow, c4_1, cond_false] <;> rfl) (by show _ = mW K bd (mRow M s n x).2 X; rw [mRow, c4_1, cond_false] <;> rfl)
  · skip
    refine g_iload_n (i := 2) C dX2_row_7 rfl rfl ?_
    refine g_i2l (v := Int32.toInt64 n) C dX2_row_8 rfl ?_
    refine g_lconst (v := 0) C dX2_row_9 (by decide) ?_
    refine g_ldc2 (v := 24) C dX2_row_10 kc_X2_56 ?_
    refine g_callS (av := [.long (Int32.toInt64 n), .long 0, .long 24]) C dX2_row_13 ln_X2_32 mf_X2_in (kX2_in K (mW K bd M X) (Int32.toInt64 n) 0 24) rfl rfl (Nat.le_of_ble_eq_true rfl) ⟨Nat.le_of_ble_eq_true rfl, Nat.le_of_ble_eq_true rfl⟩ ⟨Nat.zero_le _, Nat.zero_le _⟩ (fun _ => ?_)
    refine g_bz_eq (tgt := 25) C dX2_row_16 (by decide) (fun c16_2 => ?_) (fun c16_2 => ?_)
    · skip
      refine g_iconst (v := (-1)) C dX2_row_25 (by decide) ?_
      exact hR _ _ _ _ () dX2_row_26 (by rw [mRow, c4_1, cond_true, c16_2, cond_false] <;> rfl) (by show _ = mW K bd (mRow M s n x).2 X; rw [mRow, c4_1, cond_true, c16_2, cond_false] <;> rfl)
    · skip
      refine g_iload_n (i := 3) C dX2_row_19 rfl rfl ?_
      refine g_iload_n (i := 2) C dX2_row_20 rfl rfl ?_
      refine g_iushr (v := ushrI x n) C dX2_row_21 rfl ?_
      refine g_if_eq (tgt := 27) C dX2_row_22 (by decide) (fun c22_3 => ?_) (fun c22_3 => ?_)
      · skip
        refine g_aload_n (i := 0) C dX2_row_27 rfl rfl ?_
        refine g_get C dX2_row_28 fl_X2_7 0 rfl rfl ?_
        refine g_iload_n (i := 1) C dX2_row_31 rfl rfl ?_
        refine g_iload_n (i := 2) C dX2_row_32 rfl rfl ?_
        refine g_iast (Wd2 := mW K bd (upd M.1 s.toNatClampNeg n, M.2.1, M.2.2.1, M.2.2.2.1, M.2.2.2.2.1, M.2.2.2.2.2.1, M.2.2.2.2.2.2.1, M.2.2.2.2.2.2.2.1, M.2.2.2.2.2.2.2.2.1, M.2.2.2.2.2.2.2.2.2) X) C dX2_row_33 1 rfl (isReg_in c4_1) rfl ?_
        refine g_aload_n (i := 0) C dX2_row_34 rfl rfl ?_
        refine g_get C dX2_row_35 fl_X2_13 0 rfl rfl ?_
        refine g_iload_n (i := 1) C dX2_row_38 rfl rfl ?_
        refine g_iload_n (i := 3) C dX2_row_39 rfl rfl ?_
        refine g_iast (Wd2 := mW K bd (upd M.1 s.toNatClampNeg n, upd M.2.1 s.toNatClampNeg x, M.2.2.1, M.2.2.2.1, M.2.2.2.2.1, M.2.2.2.2.2.1, M.2.2.2.2.2.2.1, M.2.2.2.2.2.2.2.1, M.2.2.2.2.2.2.2.2.1, M.2.2.2.2.2.2.2.2.2) X) C dX2_row_40 2 rfl (isReg_in c4_1) rfl ?_
        refine g_iload_n (i := 2) C dX2_row_41 rfl rfl ?_
        exact hR _ _ _ _ () dX2_row_42 (by rw [mRow, c4_1, cond_true, c16_2, cond_true, if_pos c22_3] <;> rfl) (by show _ = mW K bd (mRow M s n x).2 X; rw [mRow, c4_1, cond_true, c16_2, cond_true, if_pos c22_3] <;> rfl)
      · skip
        refine g_iconst (v := (-1)) C dX2_row_25 (by decide) ?_
        exact hR _ _ _ _ () dX2_row_26 (by rw [mRow, c4_1, cond_true, c16_2, cond_true, if_neg c22_3] <;> rfl) (by show _ = mW K bd (mRow M s n x).2 X; rw [mRow, c4_1, cond_true, c16_2, cond_true, if_neg c22_3] <;> rfl)

set_option maxHeartbeats 600000 in
set_option maxRecDepth 100000 in
theorem kX2_number (K : KT) (bd : Nat → Nat) (M : MSt) (X : va_W) (s : Int32) (a : Int32) (k : Int32) : ∀ lau : Launch, Con lau yX2_number cX2_number 4 (some .int) 2 58 K (mW K bd M X) (fun _ : Unit => mW K bd ((mNum M s a k).2) X) [.ref (bd 0), .int s, .int a, .int k] (some (.int ((mNum M s a k).1))) := by
  refine conI (by decide) (Nat.le_of_ble_eq_true rfl) (fun E C hR => ?_)
  show G E K 0 0 (mW K bd M X) [(0, .ref (bd 0)), (1, .int s), (2, .int a), (3, .int k)] 0 []
  refine g_iload_n (i := 1) C dX2_number_0 rfl rfl ?_
  refine g_callS (av := [.int s]) C dX2_number_1 ln_X2_52 mf_X2_isRegister (kX2_isRegister K (mW K bd M X) s) rfl rfl (Nat.le_of_ble_eq_true rfl) ⟨Nat.le_of_ble_eq_true rfl, Nat.le_of_ble_eq_true rfl⟩ ⟨Nat.zero_le _, Nat.zero_le _⟩ (fun _ => ?_)
  refine g_bz_eq (tgt := 33) C dX2_number_4 (by decide) (fun c4_1 => ?_) (fun c4_1 => ?_)
  · skip
    refine g_iconst (v := (-1)) C dX2_number_33 (by decide) ?_
    exact hR _ _ _ _ () dX2_number_34 (by rw [mNum, c4_1, cond_false] <;> first | rfl | (rw [ek2, nI_clamp (by omega)] <;> rfl)) (by show _ = mW K bd (mNum M s a k).2 X; rw [mNum, c4_1, cond_false] <;> first | rfl | (rw [ek2, nI_clamp (by omega)] <;> rfl))
  · skip
    refine g_iload_n (i := 2) C dX2_number_7 rfl rfl ?_
    refine g_i2l (v := Int32.toInt64 a) C dX2_number_8 rfl ?_
    refine g_ldc2 (v := (-1000000000)) C dX2_number_9 kc_X2_58 ?_
    refine g_ldc2 (v := 1000000000) C dX2_number_12 kc_X2_60 ?_
    refine g_callS (av := [.long (Int32.toInt64 a), .long (-1000000000), .long 1000000000]) C dX2_number_15 ln_X2_32 mf_X2_in (kX2_in K (mW K bd M X) (Int32.toInt64 a) (-1000000000) 1000000000) rfl rfl (Nat.le_of_ble_eq_true rfl) ⟨Nat.le_of_ble_eq_true rfl, Nat.le_of_ble_eq_true rfl⟩ ⟨Nat.zero_le _, Nat.zero_le _⟩ (fun _ => ?_)
    refine g_bz_eq (tgt := 33) C dX2_number_18 (by decide) (fun c18_2 => ?_) (fun c18_2 => ?_)
    · skip
      refine g_iconst (v := (-1)) C dX2_number_33 (by decide) ?_
      exact hR _ _ _ _ () dX2_number_34 (by rw [mNum, c4_1, cond_true, c18_2, cond_false] <;> first | rfl | (rw [ek2, nI_clamp (by omega)] <;> rfl)) (by show _ = mW K bd (mNum M s a k).2 X; rw [mNum, c4_1, cond_true, c18_2, cond_false] <;> first | rfl | (rw [ek2, nI_clamp (by omega)] <;> rfl))
    · skip
      refine g_iload_n (i := 3) C dX2_number_21 rfl rfl ?_
      refine g_i2l (v := Int32.toInt64 k) C dX2_number_22 rfl ?_
      refine g_lconst (v := 0) C dX2_number_23 (by decide) ?_
      refine g_ldc2 (v := 20) C dX2_number_24 kc_X2_62 ?_
      refine g_callS (av := [.long (Int32.toInt64 k), .long 0, .long 20]) C dX2_number_27 ln_X2_32 mf_X2_in (kX2_in K (mW K bd M X) (Int32.toInt64 k) 0 20) rfl rfl (Nat.le_of_ble_eq_true rfl) ⟨Nat.le_of_ble_eq_true rfl, Nat.le_of_ble_eq_true rfl⟩ ⟨Nat.zero_le _, Nat.zero_le _⟩ (fun _ => ?_)
      refine g_bz_ne (tgt := 35) C dX2_number_30 (by decide) (fun c30_3 => ?_) (fun c30_3 => ?_)
      · skip
        obtain ⟨k2, hk2, ek2⟩ := in20 c30_3
        refine g_aload_n (i := 0) C dX2_number_35 rfl rfl ?_
        refine g_iload_n (i := 1) C dX2_number_36 rfl rfl ?_
        refine g_aload_n (i := 0) C dX2_number_37 rfl rfl ?_
        refine g_iload_n (i := 2) C dX2_number_38 rfl rfl ?_
        refine g_i2l (v := Int32.toInt64 a) C dX2_number_39 rfl ?_
        refine g_iload_n (i := 3) C dX2_number_40 rfl rfl ?_
        refine g_eqi ek2 ?_
        refine g_callV (av := [.long (Int32.toInt64 a), .int (nI k2)]) C dX2_number_41 ln_X2_64 mf_X2_has 0 rfl rfl (kX2_has K bd M X (Int32.toInt64 a) k2 (by omega)) rfl rfl (Nat.le_of_ble_eq_true rfl) ⟨Nat.le_of_ble_eq_true rfl, Nat.le_of_ble_eq_true rfl⟩ ⟨Nat.zero_le _, Nat.zero_le _⟩ (fun _ => ?_)
        refine g_callV (av := [.int s, .int (bz (mHas M (Int32.toInt64 a) k2).1)]) C dX2_number_44 ln_X2_68 mf_X2_keeps 0 rfl rfl (kX2_keeps K bd ((mHas M (Int32.toInt64 a) k2).2) X s ((mHas M (Int32.toInt64 a) k2).1) c4_1) rfl rfl (Nat.le_of_ble_eq_true rfl) ⟨Nat.le_of_ble_eq_true rfl, Nat.le_of_ble_eq_true rfl⟩ ⟨Nat.zero_le _, Nat.zero_le _⟩ (fun _ => ?_)
        exact hR _ _ _ _ () dX2_number_47 (by rw [mNum, c4_1, cond_true, c18_2, cond_true, c30_3, cond_true] <;> first | rfl | (rw [ek2, nI_clamp (by omega)] <;> rfl)) (by show _ = mW K bd (mNum M s a k).2 X; rw [mNum, c4_1, cond_true, c18_2, cond_true, c30_3, cond_true] <;> first | rfl | (rw [ek2, nI_clamp (by omega)] <;> rfl))
      · skip
        refine g_iconst (v := (-1)) C dX2_number_33 (by decide) ?_
        exact hR _ _ _ _ () dX2_number_34 (by rw [mNum, c4_1, cond_true, c18_2, cond_true, c30_3, cond_false] <;> first | rfl | (rw [ek2, nI_clamp (by omega)] <;> rfl)) (by show _ = mW K bd (mNum M s a k).2 X; rw [mNum, c4_1, cond_true, c18_2, cond_true, c30_3, cond_false] <;> first | rfl | (rw [ek2, nI_clamp (by omega)] <;> rfl))

set_option maxHeartbeats 600000 in
set_option maxRecDepth 100000 in
theorem kX2_at (K : KT) (bd : Nat → Nat) (M : MSt) (X : va_W) (s : Int32) (i : Int32) : ∀ lau : Launch, Con lau yX2_at cX2_at 3 (some .int) 2 45 K (mW K bd M X) (fun _ : Unit => mW K bd M X) [.ref (bd 0), .int s, .int i] (some (.int (mAt M s i))) := by
  refine conI (by decide) (Nat.le_of_ble_eq_true rfl) (fun E C hR => ?_)
  show G E K 0 0 (mW K bd M X) [(0, .ref (bd 0)), (1, .int s), (2, .int i)] 0 []
  refine g_iload_n (i := 1) C dX2_at_0 rfl rfl ?_
  refine g_callS (av := [.int s]) C dX2_at_1 ln_X2_52 mf_X2_isRegister (kX2_isRegister K (mW K bd M X) s) rfl rfl (Nat.le_of_ble_eq_true rfl) ⟨Nat.le_of_ble_eq_true rfl, Nat.le_of_ble_eq_true rfl⟩ ⟨Nat.zero_le _, Nat.zero_le _⟩ (fun _ => ?_)
  refine g_bz_eq (tgt := 12) C dX2_at_4 (by decide) (fun c4_1 => ?_) (fun c4_1 => ?_)
  · skip
    refine g_iconst (v := (-1)) C dX2_at_12 (by decide) ?_
    exact hR _ _ _ _ () dX2_at_13 (by rw [mAt, c4_1, cond_false] <;> rfl) (rfl)
  · skip
    refine g_iload_n (i := 2) C dX2_at_7 rfl rfl ?_
    refine g_iconst (v := (-1)) C dX2_at_8 (by decide) ?_
    refine g_icmp_ge (tgt := 14) C dX2_at_9 (by decide) (fun c9_2 => ?_) (fun c9_2 => ?_)
    · skip
      refine g_iload_n (i := 2) C dX2_at_14 rfl rfl ?_
      refine g_if_ge (tgt := 27) C dX2_at_15 (by decide) (fun c15_3 => ?_) (fun c15_3 => ?_)
      · skip
        refine g_iload_n (i := 2) C dX2_at_27 rfl rfl ?_
        refine g_aload_n (i := 0) C dX2_at_28 rfl rfl ?_
        refine g_get C dX2_at_29 fl_X2_7 0 rfl rfl ?_
        refine g_iload_n (i := 1) C dX2_at_32 rfl rfl ?_
        refine g_iald C dX2_at_33 1 rfl (isReg_in c4_1) ?_
        refine g_icmp_ge (tgt := 50) C dX2_at_34 (by decide) (fun c34_4 => ?_) (fun c34_4 => ?_)
        · skip
          refine g_bipush (v := (-4)) C dX2_at_50 (by decide) ?_
          exact hR _ _ _ _ () dX2_at_52 (by rw [mAt, c4_1, cond_true, if_pos c9_2, if_pos c15_3, if_pos c34_4] <;> rfl) (rfl)
        · skip
          refine g_aload_n (i := 0) C dX2_at_37 rfl rfl ?_
          refine g_get C dX2_at_38 fl_X2_13 0 rfl rfl ?_
          refine g_iload_n (i := 1) C dX2_at_41 rfl rfl ?_
          refine g_iald C dX2_at_42 2 rfl (isReg_in c4_1) ?_
          refine g_iload_n (i := 2) C dX2_at_43 rfl rfl ?_
          refine g_ishr C dX2_at_44 ?_
          refine g_iconst (v := 1) C dX2_at_45 (by decide) ?_
          refine g_iand C dX2_at_46 ?_
          refine g_eqi (sbz (M.2.1 s.toNatClampNeg) i) ?_
          refine g_goto (tgt := 52) C dX2_at_47 (by decide) ?_
          exact hR _ _ _ _ () dX2_at_52 (by rw [mAt, c4_1, cond_true, if_pos c9_2, if_pos c15_3, if_neg c34_4] <;> rfl) (rfl)
      · skip
        refine g_aload_n (i := 0) C dX2_at_18 rfl rfl ?_
        refine g_get C dX2_at_19 fl_X2_7 0 rfl rfl ?_
        refine g_iload_n (i := 1) C dX2_at_22 rfl rfl ?_
        refine g_iald C dX2_at_23 1 rfl (isReg_in c4_1) ?_
        refine g_goto (tgt := 52) C dX2_at_24 (by decide) ?_
        exact hR _ _ _ _ () dX2_at_52 (by rw [mAt, c4_1, cond_true, if_pos c9_2, if_neg c15_3] <;> rfl) (rfl)
    · skip
      refine g_iconst (v := (-1)) C dX2_at_12 (by decide) ?_
      exact hR _ _ _ _ () dX2_at_13 (by rw [mAt, c4_1, cond_true, if_neg c9_2] <;> rfl) (rfl)

set_option maxHeartbeats 600000 in
set_option maxRecDepth 100000 in
theorem kX2_value (K : KT) (bd : Nat → Nat) (M : MSt) (X : va_W) (s : Int32) (w : Int32) (hd : HD M) : ∀ lau : Launch, Con lau yX2_value cX2_value 6 (some .int) 2 49 K (mW K bd M X) (fun _ : Unit => mW K bd M X) [.ref (bd 0), .int s, .int w] (some (.int (mVal M s w))) := by
  refine conI (by decide) (Nat.le_of_ble_eq_true rfl) (fun E C hR => ?_)
  show G E K 0 0 (mW K bd M X) [(0, .ref (bd 0)), (1, .int s), (2, .int w)] 0 []
  refine g_iload_n (i := 1) C dX2_value_0 rfl rfl ?_
  refine g_callS (av := [.int s]) C dX2_value_1 ln_X2_52 mf_X2_isRegister (kX2_isRegister K (mW K bd M X) s) rfl rfl (Nat.le_of_ble_eq_true rfl) ⟨Nat.le_of_ble_eq_true rfl, Nat.le_of_ble_eq_true rfl⟩ ⟨Nat.zero_le _, Nat.zero_le _⟩ (fun _ => ?_)
  refine g_bz_eq (tgt := 17) C dX2_value_4 (by decide) (fun c4_1 => ?_) (fun c4_1 => ?_)
  · skip
    refine g_ldc (v := (-1000000000)) C dX2_value_17 kc_X2_72 ?_
    exact hR _ _ _ _ () dX2_value_19 (by rw [mVal, c4_1, cond_false] <;> rfl) (rfl)
  · skip
    refine g_iload_n (i := 2) C dX2_value_7 rfl rfl ?_
    refine g_i2l (v := Int32.toInt64 w) C dX2_value_8 rfl ?_
    refine g_lconst (v := 0) C dX2_value_9 (by decide) ?_
    refine g_lconst (v := 1) C dX2_value_10 (by decide) ?_
    refine g_callS (av := [.long (Int32.toInt64 w), .long 0, .long 1]) C dX2_value_11 ln_X2_32 mf_X2_in (kX2_in K (mW K bd M X) (Int32.toInt64 w) 0 1) rfl rfl (Nat.le_of_ble_eq_true rfl) ⟨Nat.le_of_ble_eq_true rfl, Nat.le_of_ble_eq_true rfl⟩ ⟨Nat.zero_le _, Nat.zero_le _⟩ (fun _ => ?_)
    refine g_bz_ne (tgt := 20) C dX2_value_14 (by decide) (fun c14_2 => ?_) (fun c14_2 => ?_)
    · skip
      refine g_aload_n (i := 0) C dX2_value_20 rfl rfl ?_
      refine g_iload_n (i := 1) C dX2_value_21 rfl rfl ?_
      refine g_callV (av := [.int s]) C dX2_value_22 ln_X2_73 mf_X2_worthOf 0 rfl rfl (kX2_worthOf K bd M X s c4_1 (HD.r hd c4_1)) rfl rfl (Nat.le_of_ble_eq_true rfl) ⟨Nat.le_of_ble_eq_true rfl, Nat.le_of_ble_eq_true rfl⟩ ⟨Nat.zero_le _, Nat.zero_le _⟩ (fun _ => ?_)
      refine g_lstore_n (i := 3) (lv2 := [(0, .ref (bd 0)), (1, .int s), (2, .int w), (3, .long (wO M s.toNatClampNeg))]) C dX2_value_25 rfl (by decide) rfl ?_
      refine g_bipush (v := 24) C dX2_value_26 (by decide) ?_
      refine g_istore (lv2 := [(0, .ref (bd 0)), (1, .int s), (2, .int w), (3, .long (wO M s.toNatClampNeg)), (5, .int 24)]) C dX2_value_28 (by decide) rfl ?_
      have lo : ∀ (fuel : Nat) (j : Nat) (u : Int64), j ≤ 24 → j < fuel → rdM j u = rdM 24 (wO M s.toNatClampNeg) → G E K 0 0 (mW K bd M X) [(0, .ref (bd 0)), (1, .int s), (2, .int w), (3, .long u), (5, .int (nI j))] 30 [] := by
        intro fuel
        induction fuel with
        | zero =>
          intro j u hlo0 hlo1 hlo2
          omega
        | succ fuel ihlo =>
          intro j u hlo0 hlo1 hlo2
          refine g_iload C dX2_value_30 rfl ?_
          refine g_if_le (tgt := 57) C dX2_value_32 (by decide) (fun c32_3 => ?_) (fun c32_3 => ?_)
          · skip
            have ej : j = 0 := nz0 c32_3 (by omega)
            subst ej
            have er : rdM 24 (wO M s.toNatClampNeg) = (u, 0) := hlo2.symm
            refine g_iload_n (i := 2) C dX2_value_57 rfl rfl ?_
            refine g_if_ne (tgt := 66) C dX2_value_58 (by decide) (fun c58_4 => ?_) (fun c58_4 => ?_)
            · skip
              refine g_iload C dX2_value_66 rfl ?_
              exact hR _ _ _ _ () dX2_value_68 (by rw [mVal, c4_1, cond_true, c14_2, cond_true, er, if_neg c58_4] <;> rfl) (rfl)
            · skip
              refine g_lload_n (i := 3) C dX2_value_61 rfl rfl ?_
              refine g_l2i (v := Int64.toInt32 u) C dX2_value_62 rfl ?_
              refine g_goto (tgt := 68) C dX2_value_63 (by decide) ?_
              exact hR _ _ _ _ () dX2_value_68 (by rw [mVal, c4_1, cond_true, c14_2, cond_true, er, if_pos c58_4] <;> rfl) (rfl)
          · skip
            obtain ⟨j2, rfl⟩ := nz c32_3
            refine g_lload_n (i := 3) C dX2_value_35 rfl rfl ?_
            refine g_ldc2 (v := 2) C dX2_value_36 kc_X2_38 ?_
            refine g_lrem C dX2_value_39 (by decide) ?_
            refine g_lconst (v := 0) C dX2_value_40 (by decide) ?_
            refine g_lcmp_ne (tgt := 57) C dX2_value_41 dX2_value_42 (by decide) (fun c41_5 => ?_) (fun c41_5 => ?_)
            · skip
              have er : rdM 24 (wO M s.toNatClampNeg) = (u, j2 + 1) := by rw [← hlo2, rdM, if_neg c41_5]
              refine g_iload_n (i := 2) C dX2_value_57 rfl rfl ?_
              refine g_if_ne (tgt := 66) C dX2_value_58 (by decide) (fun c58_6 => ?_) (fun c58_6 => ?_)
              · skip
                refine g_iload C dX2_value_66 rfl ?_
                exact hR _ _ _ _ () dX2_value_68 (by rw [mVal, c4_1, cond_true, c14_2, cond_true, er, if_neg c58_6] <;> rfl) (rfl)
              · skip
                refine g_lload_n (i := 3) C dX2_value_61 rfl rfl ?_
                refine g_l2i (v := Int64.toInt32 u) C dX2_value_62 rfl ?_
                refine g_goto (tgt := 68) C dX2_value_63 (by decide) ?_
                exact hR _ _ _ _ () dX2_value_68 (by rw [mVal, c4_1, cond_true, c14_2, cond_true, er, if_pos c58_6] <;> rfl) (rfl)
            · skip
              refine g_lload_n (i := 3) C dX2_value_45 rfl rfl ?_
              refine g_ldc2 (v := 2) C dX2_value_46 kc_X2_38 ?_
              refine g_ldiv C dX2_value_49 (by decide) ?_
              refine g_lstore_n (i := 3) (lv2 := [(0, .ref (bd 0)), (1, .int s), (2, .int w), (3, .long (u / 2)), (5, .int (nI (j2 + 1)))]) C dX2_value_50 rfl (by decide) rfl ?_
              refine g_iinc (v := nI j2) (lv2 := [(0, .ref (bd 0)), (1, .int s), (2, .int w), (3, .long (u / 2)), (5, .int (nI j2))]) C dX2_value_51 rfl (decS j2) (by decide) rfl ?_
              refine g_goto (tgt := 30) C dX2_value_54 (by decide) ?_
              exact g_lvs [0, 1, 2, 3, 4] rfl (ihlo j2 _ (by omega) (by omega) (by rw [← hlo2, rdM, if_pos c41_5]))
      exact g_lvs [0, 1, 2, 3, 4] rfl (lo 25 24 _ (Nat.le_refl _) (by omega) rfl)
    · skip
      refine g_ldc (v := (-1000000000)) C dX2_value_17 kc_X2_72 ?_
      exact hR _ _ _ _ () dX2_value_19 (by rw [mVal, c4_1, cond_true, c14_2, cond_false] <;> rfl) (rfl)

set_option maxHeartbeats 600000 in
set_option maxRecDepth 100000 in
theorem kX2_against (K : KT) (bd : Nat → Nat) (M : MSt) (X : va_W) (s : Int32) (t : Int32) (hd : HD M) : ∀ lau : Launch, Con lau yX2_against cX2_against 3 (some .int) 2 49 K (mW K bd M X) (fun _ : Unit => mW K bd M X) [.ref (bd 0), .int s, .int t] (some (.int (mAgn M s t))) := by
  refine conI (by decide) (Nat.le_of_ble_eq_true rfl) (fun E C hR => ?_)
  show G E K 0 0 (mW K bd M X) [(0, .ref (bd 0)), (1, .int s), (2, .int t)] 0 []
  refine g_iload_n (i := 1) C dX2_against_0 rfl rfl ?_
  refine g_callS (av := [.int s]) C dX2_against_1 ln_X2_52 mf_X2_isRegister (kX2_isRegister K (mW K bd M X) s) rfl rfl (Nat.le_of_ble_eq_true rfl) ⟨Nat.le_of_ble_eq_true rfl, Nat.le_of_ble_eq_true rfl⟩ ⟨Nat.zero_le _, Nat.zero_le _⟩ (fun _ => ?_)
  refine g_bz_eq (tgt := 30) C dX2_against_4 (by decide) (fun c4_1 => ?_) (fun c4_1 => ?_)
  · skip
    refine g_bipush (v := (-9)) C dX2_against_30 (by decide) ?_
    exact hR _ _ _ _ () dX2_against_32 (by rw [mAgn, c4_1, cond_false] <;> rfl) (rfl)
  · skip
    refine g_iload_n (i := 2) C dX2_against_7 rfl rfl ?_
    refine g_callS (av := [.int t]) C dX2_against_8 ln_X2_52 mf_X2_isRegister (kX2_isRegister K (mW K bd M X) t) rfl rfl (Nat.le_of_ble_eq_true rfl) ⟨Nat.le_of_ble_eq_true rfl, Nat.le_of_ble_eq_true rfl⟩ ⟨Nat.zero_le _, Nat.zero_le _⟩ (fun _ => ?_)
    refine g_bz_eq (tgt := 30) C dX2_against_11 (by decide) (fun c11_2 => ?_) (fun c11_2 => ?_)
    · skip
      refine g_bipush (v := (-9)) C dX2_against_30 (by decide) ?_
      exact hR _ _ _ _ () dX2_against_32 (by rw [mAgn, c4_1, cond_true, c11_2, cond_false] <;> rfl) (rfl)
    · skip
      refine g_aload_n (i := 0) C dX2_against_14 rfl rfl ?_
      refine g_iload_n (i := 1) C dX2_against_15 rfl rfl ?_
      refine g_callV (av := [.int s]) C dX2_against_16 ln_X2_73 mf_X2_worthOf 0 rfl rfl (kX2_worthOf K bd M X s c4_1 (HD.r hd c4_1)) rfl rfl (Nat.le_of_ble_eq_true rfl) ⟨Nat.le_of_ble_eq_true rfl, Nat.le_of_ble_eq_true rfl⟩ ⟨Nat.zero_le _, Nat.zero_le _⟩ (fun _ => ?_)
      refine g_aload_n (i := 0) C dX2_against_19 rfl rfl ?_
      refine g_iload_n (i := 2) C dX2_against_20 rfl rfl ?_
      refine g_callV (av := [.int t]) C dX2_against_21 ln_X2_73 mf_X2_worthOf 0 rfl rfl (kX2_worthOf K bd M X t c11_2 (HD.r hd c11_2)) rfl rfl (Nat.le_of_ble_eq_true rfl) ⟨Nat.le_of_ble_eq_true rfl, Nat.le_of_ble_eq_true rfl⟩ ⟨Nat.zero_le _, Nat.zero_le _⟩ (fun _ => ?_)
      refine g_callS (av := [.long (wO M s.toNatClampNeg), .long (wO M t.toNatClampNeg)]) C dX2_against_24 ln_X2_77 mf_X2_compare (kX2_compare K (mW K bd M X) (wO M s.toNatClampNeg) (wO M t.toNatClampNeg)) rfl rfl (Nat.le_of_ble_eq_true rfl) ⟨Nat.le_of_ble_eq_true rfl, Nat.le_of_ble_eq_true rfl⟩ ⟨Nat.zero_le _, Nat.zero_le _⟩ (fun _ => ?_)
      refine g_goto (tgt := 32) C dX2_against_27 (by decide) ?_
      exact hR _ _ _ _ () dX2_against_32 (by rw [mAgn, c4_1, cond_true, c11_2, cond_true] <;> rfl) (rfl)

set_option maxHeartbeats 600000 in
set_option maxRecDepth 100000 in
theorem kX2_work (K : KT) (bd : Nat → Nat) (M : MSt) (X : va_W) (s : Int32) (how : Int32) (t : Int32) (u : Int32) (hd : HD M) : ∀ lau : Launch, Con lau yX2_work cX2_work 9 (some .int) 2 58 K (mW K bd M X) (fun _ : Unit => mW K bd ((mWork M s how t u).2) X) [.ref (bd 0), .int s, .int how, .int t, .int u] (some (.int ((mWork M s how t u).1))) := by
  refine conI (by decide) (Nat.le_of_ble_eq_true rfl) (fun E C hR => ?_)
  show G E K 0 0 (mW K bd M X) [(0, .ref (bd 0)), (1, .int s), (2, .int how), (3, .int t), (4, .int u)] 0 []
  refine g_iload_n (i := 1) C dX2_work_0 rfl rfl ?_
  refine g_callS (av := [.int s]) C dX2_work_1 ln_X2_52 mf_X2_isRegister (kX2_isRegister K (mW K bd M X) s) rfl rfl (Nat.le_of_ble_eq_true rfl) ⟨Nat.le_of_ble_eq_true rfl, Nat.le_of_ble_eq_true rfl⟩ ⟨Nat.zero_le _, Nat.zero_le _⟩ (fun _ => ?_)
  refine g_bz_eq (tgt := 39) C dX2_work_4 (by decide) (fun c4_1 => ?_) (fun c4_1 => ?_)
  · skip
    refine g_iconst (v := (-1)) C dX2_work_39 (by decide) ?_
    exact hR _ _ _ _ () dX2_work_40 (by rw [mWork, c4_1, cond_false] <;> rfl) (by show _ = mW K bd (mWork M s how t u).2 X; rw [mWork, c4_1, cond_false] <;> rfl)
  · skip
    refine g_iload_n (i := 2) C dX2_work_7 rfl rfl ?_
    refine g_i2l (v := Int32.toInt64 how) C dX2_work_8 rfl ?_
    refine g_lconst (v := 0) C dX2_work_9 (by decide) ?_
    refine g_ldc2 (v := 3) C dX2_work_10 kc_X2_81 ?_
    refine g_callS (av := [.long (Int32.toInt64 how), .long 0, .long 3]) C dX2_work_13 ln_X2_32 mf_X2_in (kX2_in K (mW K bd M X) (Int32.toInt64 how) 0 3) rfl rfl (Nat.le_of_ble_eq_true rfl) ⟨Nat.le_of_ble_eq_true rfl, Nat.le_of_ble_eq_true rfl⟩ ⟨Nat.zero_le _, Nat.zero_le _⟩ (fun _ => ?_)
    refine g_bz_eq (tgt := 39) C dX2_work_16 (by decide) (fun c16_2 => ?_) (fun c16_2 => ?_)
    · skip
      refine g_iconst (v := (-1)) C dX2_work_39 (by decide) ?_
      exact hR _ _ _ _ () dX2_work_40 (by rw [mWork, c4_1, cond_true, c16_2, cond_false] <;> rfl) (by show _ = mW K bd (mWork M s how t u).2 X; rw [mWork, c4_1, cond_true, c16_2, cond_false] <;> rfl)
    · skip
      refine g_iload_n (i := 3) C dX2_work_19 rfl rfl ?_
      refine g_callS (av := [.int t]) C dX2_work_20 ln_X2_52 mf_X2_isRegister (kX2_isRegister K (mW K bd M X) t) rfl rfl (Nat.le_of_ble_eq_true rfl) ⟨Nat.le_of_ble_eq_true rfl, Nat.le_of_ble_eq_true rfl⟩ ⟨Nat.zero_le _, Nat.zero_le _⟩ (fun _ => ?_)
      refine g_bz_eq (tgt := 39) C dX2_work_23 (by decide) (fun c23_3 => ?_) (fun c23_3 => ?_)
      · skip
        refine g_iconst (v := (-1)) C dX2_work_39 (by decide) ?_
        exact hR _ _ _ _ () dX2_work_40 (by rw [mWork, c4_1, cond_true, c16_2, cond_true, c23_3, cond_false] <;> rfl) (by show _ = mW K bd (mWork M s how t u).2 X; rw [mWork, c4_1, cond_true, c16_2, cond_true, c23_3, cond_false] <;> rfl)
      · skip
        refine g_iload_n (i := 2) C dX2_work_26 rfl rfl ?_
        refine g_iconst (v := 3) C dX2_work_27 (by decide) ?_
        refine g_icmp_ge (tgt := 41) C dX2_work_28 (by decide) (fun c28_4 => ?_) (fun c28_4 => ?_)
        · skip
          refine g_aload_n (i := 0) C dX2_work_41 rfl rfl ?_
          refine g_iload_n (i := 3) C dX2_work_42 rfl rfl ?_
          refine g_callV (av := [.int t]) C dX2_work_43 ln_X2_73 mf_X2_worthOf 0 rfl rfl (kX2_worthOf K bd M X t c23_3 (HD.r hd c23_3)) rfl rfl (Nat.le_of_ble_eq_true rfl) ⟨Nat.le_of_ble_eq_true rfl, Nat.le_of_ble_eq_true rfl⟩ ⟨Nat.zero_le _, Nat.zero_le _⟩ (fun _ => ?_)
          refine g_lstore (lv2 := [(0, .ref (bd 0)), (1, .int s), (2, .int how), (3, .int t), (4, .int u), (5, .long (wO M t.toNatClampNeg))]) C dX2_work_46 (by decide) rfl ?_
          refine g_iload_n (i := 2) C dX2_work_48 rfl rfl ?_
          refine g_iconst (v := 3) C dX2_work_49 (by decide) ?_
          refine g_icmp_ge (tgt := 62) C dX2_work_50 (by decide) (fun c50_5 => ?_) (fun c50_5 => absurd c28_4 c50_5)
          refine g_lconst (v := 0) C dX2_work_62 (by decide) ?_
          refine g_lstore (lv2 := [(0, .ref (bd 0)), (1, .int s), (2, .int how), (3, .int t), (4, .int u), (5, .long (wO M t.toNatClampNeg)), (7, .long 0)]) C dX2_work_63 (by decide) rfl ?_
          refine g_iload_n (i := 2) C dX2_work_65 rfl rfl ?_
          have h3 := how3b c16_2 c28_4
          refine g_tout (tgt := 143) C dX2_work_66 (by rw [h3]; decide) (by decide) ?_
          refine g_aload_n (i := 0) C dX2_work_143 rfl rfl ?_
          refine g_iload_n (i := 1) C dX2_work_144 rfl rfl ?_
          refine g_aload_n (i := 0) C dX2_work_145 rfl rfl ?_
          refine g_lload C dX2_work_146 rfl ?_
          refine g_lneg C dX2_work_148 ?_
          refine g_bipush (v := 24) C dX2_work_149 (by decide) ?_
          refine g_callV (av := [.long (-(wO M t.toNatClampNeg)), .int 24]) C dX2_work_151 ln_X2_64 mf_X2_has 0 rfl rfl (kX2_has K bd M X (-(wO M t.toNatClampNeg)) 24 (by decide)) rfl rfl (Nat.le_of_ble_eq_true rfl) ⟨Nat.le_of_ble_eq_true rfl, Nat.le_of_ble_eq_true rfl⟩ ⟨Nat.zero_le _, Nat.zero_le _⟩ (fun _ => ?_)
          refine g_callV (av := [.int s, .int (bz (mHas M (-(wO M t.toNatClampNeg)) 24).1)]) C dX2_work_154 ln_X2_68 mf_X2_keeps 0 rfl rfl (kX2_keeps K bd ((mHas M (-(wO M t.toNatClampNeg)) 24).2) X s ((mHas M (-(wO M t.toNatClampNeg)) 24).1) c4_1) rfl rfl (Nat.le_of_ble_eq_true rfl) ⟨Nat.le_of_ble_eq_true rfl, Nat.le_of_ble_eq_true rfl⟩ ⟨Nat.zero_le _, Nat.zero_le _⟩ (fun _ => ?_)
          exact hR _ _ _ _ () dX2_work_157 (by rw [mWork, c4_1, cond_true, c16_2, cond_true, c23_3, cond_true, if_pos c28_4] <;> rfl) (by show _ = mW K bd (mWork M s how t u).2 X; rw [mWork, c4_1, cond_true, c16_2, cond_true, c23_3, cond_true, if_pos c28_4] <;> rfl)
        · skip
          refine g_iload C dX2_work_31 rfl ?_
          refine g_callS (av := [.int u]) C dX2_work_33 ln_X2_52 mf_X2_isRegister (kX2_isRegister K (mW K bd M X) u) rfl rfl (Nat.le_of_ble_eq_true rfl) ⟨Nat.le_of_ble_eq_true rfl, Nat.le_of_ble_eq_true rfl⟩ ⟨Nat.zero_le _, Nat.zero_le _⟩ (fun _ => ?_)
          refine g_bz_ne (tgt := 41) C dX2_work_36 (by decide) (fun c36_6 => ?_) (fun c36_6 => ?_)
          · skip
            refine g_aload_n (i := 0) C dX2_work_41 rfl rfl ?_
            refine g_iload_n (i := 3) C dX2_work_42 rfl rfl ?_
            refine g_callV (av := [.int t]) C dX2_work_43 ln_X2_73 mf_X2_worthOf 0 rfl rfl (kX2_worthOf K bd M X t c23_3 (HD.r hd c23_3)) rfl rfl (Nat.le_of_ble_eq_true rfl) ⟨Nat.le_of_ble_eq_true rfl, Nat.le_of_ble_eq_true rfl⟩ ⟨Nat.zero_le _, Nat.zero_le _⟩ (fun _ => ?_)
            refine g_lstore (lv2 := [(0, .ref (bd 0)), (1, .int s), (2, .int how), (3, .int t), (4, .int u), (5, .long (wO M t.toNatClampNeg))]) C dX2_work_46 (by decide) rfl ?_
            refine g_iload_n (i := 2) C dX2_work_48 rfl rfl ?_
            refine g_iconst (v := 3) C dX2_work_49 (by decide) ?_
            refine g_icmp_ge (tgt := 62) C dX2_work_50 (by decide) (fun c50_7 => absurd c50_7 c28_4) (fun c50_7 => ?_)
            refine g_aload_n (i := 0) C dX2_work_53 rfl rfl ?_
            refine g_iload C dX2_work_54 rfl ?_
            refine g_callV (av := [.int u]) C dX2_work_56 ln_X2_73 mf_X2_worthOf 0 rfl rfl (kX2_worthOf K bd M X u c36_6 (HD.r hd c36_6)) rfl rfl (Nat.le_of_ble_eq_true rfl) ⟨Nat.le_of_ble_eq_true rfl, Nat.le_of_ble_eq_true rfl⟩ ⟨Nat.zero_le _, Nat.zero_le _⟩ (fun _ => ?_)
            refine g_goto (tgt := 63) C dX2_work_59 (by decide) ?_
            refine g_lstore (lv2 := [(0, .ref (bd 0)), (1, .int s), (2, .int how), (3, .int t), (4, .int u), (5, .long (wO M t.toNatClampNeg)), (7, .long (wO M u.toNatClampNeg))]) C dX2_work_63 (by decide) rfl ?_
            refine g_iload_n (i := 2) C dX2_work_65 rfl rfl ?_
            rcases how3 c16_2 c28_4 with h0 | ⟨n0, h1⟩ | ⟨n0, n1, h2⟩
            · skip
              refine g_tin (tgt := 92) C dX2_work_66 (by rw [h0]; decide) (by rw [h0]; decide) (by rw [h0]; rfl) (by decide) ?_
              refine g_aload_n (i := 0) C dX2_work_92 rfl rfl ?_
              refine g_iload_n (i := 1) C dX2_work_93 rfl rfl ?_
              refine g_aload_n (i := 0) C dX2_work_94 rfl rfl ?_
              refine g_lload C dX2_work_95 rfl ?_
              refine g_lload C dX2_work_97 rfl ?_
              refine g_ladd C dX2_work_99 ?_
              refine g_bipush (v := 24) C dX2_work_100 (by decide) ?_
              refine g_callV (av := [.long ((wO M t.toNatClampNeg) + (wO M u.toNatClampNeg)), .int 24]) C dX2_work_102 ln_X2_64 mf_X2_has 0 rfl rfl (kX2_has K bd M X ((wO M t.toNatClampNeg) + (wO M u.toNatClampNeg)) 24 (by decide)) rfl rfl (Nat.le_of_ble_eq_true rfl) ⟨Nat.le_of_ble_eq_true rfl, Nat.le_of_ble_eq_true rfl⟩ ⟨Nat.zero_le _, Nat.zero_le _⟩ (fun _ => ?_)
              refine g_callV (av := [.int s, .int (bz (mHas M ((wO M t.toNatClampNeg) + (wO M u.toNatClampNeg)) 24).1)]) C dX2_work_105 ln_X2_68 mf_X2_keeps 0 rfl rfl (kX2_keeps K bd ((mHas M ((wO M t.toNatClampNeg) + (wO M u.toNatClampNeg)) 24).2) X s ((mHas M ((wO M t.toNatClampNeg) + (wO M u.toNatClampNeg)) 24).1) c4_1) rfl rfl (Nat.le_of_ble_eq_true rfl) ⟨Nat.le_of_ble_eq_true rfl, Nat.le_of_ble_eq_true rfl⟩ ⟨Nat.zero_le _, Nat.zero_le _⟩ (fun _ => ?_)
              exact hR _ _ _ _ () dX2_work_108 (by rw [mWork, c4_1, cond_true, c16_2, cond_true, c23_3, cond_true, if_neg c28_4, c36_6, cond_true, if_pos h0] <;> rfl) (by show _ = mW K bd (mWork M s how t u).2 X; rw [mWork, c4_1, cond_true, c16_2, cond_true, c23_3, cond_true, if_neg c28_4, c36_6, cond_true, if_pos h0] <;> rfl)
            · skip
              refine g_tin (tgt := 109) C dX2_work_66 (by rw [h1]; decide) (by rw [h1]; decide) (by rw [h1]; rfl) (by decide) ?_
              refine g_aload_n (i := 0) C dX2_work_109 rfl rfl ?_
              refine g_iload_n (i := 1) C dX2_work_110 rfl rfl ?_
              refine g_aload_n (i := 0) C dX2_work_111 rfl rfl ?_
              refine g_lload C dX2_work_112 rfl ?_
              refine g_lload C dX2_work_114 rfl ?_
              refine g_lsub C dX2_work_116 ?_
              refine g_bipush (v := 24) C dX2_work_117 (by decide) ?_
              refine g_callV (av := [.long ((wO M t.toNatClampNeg) - (wO M u.toNatClampNeg)), .int 24]) C dX2_work_119 ln_X2_64 mf_X2_has 0 rfl rfl (kX2_has K bd M X ((wO M t.toNatClampNeg) - (wO M u.toNatClampNeg)) 24 (by decide)) rfl rfl (Nat.le_of_ble_eq_true rfl) ⟨Nat.le_of_ble_eq_true rfl, Nat.le_of_ble_eq_true rfl⟩ ⟨Nat.zero_le _, Nat.zero_le _⟩ (fun _ => ?_)
              refine g_callV (av := [.int s, .int (bz (mHas M ((wO M t.toNatClampNeg) - (wO M u.toNatClampNeg)) 24).1)]) C dX2_work_122 ln_X2_68 mf_X2_keeps 0 rfl rfl (kX2_keeps K bd ((mHas M ((wO M t.toNatClampNeg) - (wO M u.toNatClampNeg)) 24).2) X s ((mHas M ((wO M t.toNatClampNeg) - (wO M u.toNatClampNeg)) 24).1) c4_1) rfl rfl (Nat.le_of_ble_eq_true rfl) ⟨Nat.le_of_ble_eq_true rfl, Nat.le_of_ble_eq_true rfl⟩ ⟨Nat.zero_le _, Nat.zero_le _⟩ (fun _ => ?_)
              exact hR _ _ _ _ () dX2_work_125 (by rw [mWork, c4_1, cond_true, c16_2, cond_true, c23_3, cond_true, if_neg c28_4, c36_6, cond_true, if_neg n0, if_pos h1] <;> rfl) (by show _ = mW K bd (mWork M s how t u).2 X; rw [mWork, c4_1, cond_true, c16_2, cond_true, c23_3, cond_true, if_neg c28_4, c36_6, cond_true, if_neg n0, if_pos h1] <;> rfl)
            · skip
              refine g_tin (tgt := 126) C dX2_work_66 (by rw [h2]; decide) (by rw [h2]; decide) (by rw [h2]; rfl) (by decide) ?_
              refine g_aload_n (i := 0) C dX2_work_126 rfl rfl ?_
              refine g_iload_n (i := 1) C dX2_work_127 rfl rfl ?_
              refine g_aload_n (i := 0) C dX2_work_128 rfl rfl ?_
              refine g_lload C dX2_work_129 rfl ?_
              refine g_lload C dX2_work_131 rfl ?_
              refine g_lmul C dX2_work_133 ?_
              refine g_bipush (v := 48) C dX2_work_134 (by decide) ?_
              refine g_callV (av := [.long ((wO M t.toNatClampNeg) * (wO M u.toNatClampNeg)), .int 48]) C dX2_work_136 ln_X2_64 mf_X2_has 0 rfl rfl (kX2_has K bd M X ((wO M t.toNatClampNeg) * (wO M u.toNatClampNeg)) 48 (by decide)) rfl rfl (Nat.le_of_ble_eq_true rfl) ⟨Nat.le_of_ble_eq_true rfl, Nat.le_of_ble_eq_true rfl⟩ ⟨Nat.zero_le _, Nat.zero_le _⟩ (fun _ => ?_)
              refine g_callV (av := [.int s, .int (bz (mHas M ((wO M t.toNatClampNeg) * (wO M u.toNatClampNeg)) 48).1)]) C dX2_work_139 ln_X2_68 mf_X2_keeps 0 rfl rfl (kX2_keeps K bd ((mHas M ((wO M t.toNatClampNeg) * (wO M u.toNatClampNeg)) 48).2) X s ((mHas M ((wO M t.toNatClampNeg) * (wO M u.toNatClampNeg)) 48).1) c4_1) rfl rfl (Nat.le_of_ble_eq_true rfl) ⟨Nat.le_of_ble_eq_true rfl, Nat.le_of_ble_eq_true rfl⟩ ⟨Nat.zero_le _, Nat.zero_le _⟩ (fun _ => ?_)
              exact hR _ _ _ _ () dX2_work_142 (by rw [mWork, c4_1, cond_true, c16_2, cond_true, c23_3, cond_true, if_neg c28_4, c36_6, cond_true, if_neg n0, if_neg n1] <;> rfl) (by show _ = mW K bd (mWork M s how t u).2 X; rw [mWork, c4_1, cond_true, c16_2, cond_true, c23_3, cond_true, if_neg c28_4, c36_6, cond_true, if_neg n0, if_neg n1] <;> rfl)
          · skip
            refine g_iconst (v := (-1)) C dX2_work_39 (by decide) ?_
            exact hR _ _ _ _ () dX2_work_40 (by rw [mWork, c4_1, cond_true, c16_2, cond_true, c23_3, cond_true, if_neg c28_4, c36_6, cond_false] <;> rfl) (by show _ = mW K bd (mWork M s how t u).2 X; rw [mWork, c4_1, cond_true, c16_2, cond_true, c23_3, cond_true, if_neg c28_4, c36_6, cond_false] <;> rfl)

set_option maxHeartbeats 600000 in
set_option maxRecDepth 100000 in
theorem kX2_pair (K : KT) (bd : Nat → Nat) (M : MSt) (X : va_W) (w : Int32) : ∀ lau : Launch, Con lau yX2_pair cX2_pair 2 (some .int) 0 0 K (mW K bd M X) (fun _ : Unit => mW K bd M X) [.ref (bd 0), .int w] (some (.int (mPair M w))) := by
  refine conI (by decide) (Nat.le_of_ble_eq_true rfl) (fun E C hR => ?_)
  show G E K 0 0 (mW K bd M X) [(0, .ref (bd 0)), (1, .int w)] 0 []
  refine g_iload_n (i := 1) C dX2_pair_0 rfl rfl ?_
  refine g_if_ne (tgt := 11) C dX2_pair_1 (by decide) (fun c1_1 => ?_) (fun c1_1 => ?_)
  · skip
    refine g_iload_n (i := 1) C dX2_pair_11 rfl rfl ?_
    refine g_iconst (v := 1) C dX2_pair_12 (by decide) ?_
    refine g_icmp_ne (tgt := 23) C dX2_pair_13 (by decide) (fun c13_2 => ?_) (fun c13_2 => ?_)
    · skip
      refine g_iconst (v := (-1)) C dX2_pair_23 (by decide) ?_
      exact hR _ _ _ _ () dX2_pair_24 (by rw [mPair, if_neg c1_1, if_neg c13_2] <;> rfl) (rfl)
    · skip
      refine g_aload_n (i := 0) C dX2_pair_16 rfl rfl ?_
      refine g_get C dX2_pair_17 fl_X2_20 0 rfl rfl ?_
      refine g_goto (tgt := 24) C dX2_pair_20 (by decide) ?_
      exact hR _ _ _ _ () dX2_pair_24 (by rw [mPair, if_neg c1_1, if_pos c13_2] <;> rfl) (rfl)
  · skip
    refine g_aload_n (i := 0) C dX2_pair_4 rfl rfl ?_
    refine g_get C dX2_pair_5 fl_X2_16 0 rfl rfl ?_
    refine g_goto (tgt := 24) C dX2_pair_8 (by decide) ?_
    exact hR _ _ _ _ () dX2_pair_24 (by rw [mPair, if_pos c1_1] <;> rfl) (rfl)
