def cHold (S : CS) (s n x : Int32) : CS := (S.1, S.2.1, upd S.2.2.1 s.toNatClampNeg n, upd S.2.2.2.1 s.toNatClampNeg x, vp_updL S.2.2.2.2.1 s.toNatClampNeg (wC x n.toNatClampNeg), S.2.2.2.2.2)
def hsL (lo hi : Int64) : Nat → Nat → Int32 → Option (Nat × Int32)
  | 0, _, _ => none
  | f + 1, n, x => if lo ≤ wC x n then (if hi < wC x n then hsL lo hi f (n + 1) x else some (n, x)) else hsL lo hi f (n + 1) (x ||| (1 <<< (nI n &&& 31)))
def cHS (S : CS) (s : Int32) (lo hi : Int64) : Int32 × CS := match hsL lo hi 25 0 0 with
  | none => (-3, S)
  | some q => (nI q.1, cHold S s (nI q.1) q.2)
def cHV (S : CS) (s : Int32) (w : Int64) : Int32 × CS := cHS S s w w
def cHP (S : CS) (s : Int32) (w : Int64) : Int32 × CS := if w - w / 8388608 * 8388608 = 0 then cHV S s (w / 8388608) else (-3, S)
abbrev dyC (S : CS) (s : Int32) : Int32 := S.2.2.1 s.toNatClampNeg
abbrev sgC (S : CS) (s : Int32) : Int32 := S.2.2.2.1 s.toNatClampNeg
abbrev vlC (S : CS) (s : Int32) : Int64 := S.2.2.2.2.1 s.toNatClampNeg
def cRow (S : CS) (s n x : Int32) : Int32 × CS := bif isReg s then (if n < 0 then (-1, S) else if 24 < n then (-1, S) else if ushrI x n = 0 then (n, cHold S s n x) else (-1, S)) else (-1, S)
def cNum (S : CS) (s a k : Int32) : Int32 × CS := bif isReg s then bif isFr a k then cHV S s (shlL a.toInt64 (23 - k)) else (-1, S) else (-1, S)
def cAt (S : CS) (s i : Int32) : Int32 := bif isReg s then (if -1 ≤ i then (if i = -1 then dyC S s else if i < dyC S s then bz (tb (sgC S s) i) else -4) else -1) else -1
def cVal (S : CS) (s w : Int32) : Int32 := bif isReg s then (if w < 0 then -1000000000 else if w ≤ 1 then (if w = 0 then lAbo (vlC S s) 23 else lBel (vlC S s) 23) else -1000000000) else -1000000000
def cAgn (S : CS) (s t : Int32) : Int32 := bif isReg s then bif isReg t then sgnO (vlC S s - vlC S t) else -9 else -9
def cWork (S : CS) (s how t u : Int32) : Int32 × CS := bif isReg s then (if how < 0 then (-1, S) else if 3 < how then (-1, S) else bif isReg t then (if how = 3 then cHV S s (-(vlC S t)) else bif isReg u then (if how = 2 then cHP S s (vlC S t * vlC S u) else if how = 0 then cHV S s (vlC S t + vlC S u) else cHV S s (vlC S t - vlC S u)) else (-1, S)) else (-1, S)) else (-1, S)
def cPair (S : CS) (w : Int32) : Int32 := if w < 0 then -1 else if w ≤ 1 then (if w = 0 then S.1 else S.2.1) else -1
theorem kX1_worthI (K : KT) (Wd : va_W) (n sg : Int32) (h : ¬ n < 0) : ∀ l : Launch, Con l yX1_worth cX1_worth 10 (some .long) 2 42 K Wd (fun _ : Unit => Wd) [.int n, .int sg] (some (.long (wC sg n.toNatClampNeg))) := by
  obtain ⟨j, hj, rfl⟩ := nI_of h
  rw [nI_clamp hj]
  exact kX1_worth K Wd j sg hj
theorem nlt24 {n : Nat} (h : ¬ (24 : Int32) < nI n) (hn : n < 2 ^ 31) : n < 25 := by
  rcases Nat.lt_or_ge n 25 with q | q
  · exact q
  · exact absurd (show nI 24 < nI n from nI_lt (by omega) hn) h
theorem nge24 {n : Nat} (h : (24 : Int32) < nI n) (hn : n < 2 ^ 31) : 25 ≤ n := by
  rcases Nat.lt_or_ge n 25 with q | q
  · exact absurd h (show ¬ nI 24 < nI n from nI_nlt (by omega) (by omega))
  · exact q
theorem hsL_s {lo hi : Int64} {n : Nat} {x : Int32} (h : n < 25) : hsL lo hi (25 - n) n x = (if lo ≤ wC x n then (if hi < wC x n then hsL lo hi (25 - (n + 1)) (n + 1) x else some (n, x)) else hsL lo hi (25 - (n + 1)) (n + 1) (x ||| (1 <<< (nI n &&& 31)))) := by
  rw [show 25 - n = (25 - (n + 1)) + 1 from by omega]
  rfl
set_option maxHeartbeats 600000 in
set_option maxRecDepth 100000 in
theorem kX1_hold (K : KT) (ad : Nat → Nat) (S : CS) (X : va_W) (s : Int32) (n : Int32) (x : Int32) (hs : isReg s = true) (hn : ¬ n < 0) : ∀ lau : Launch, Con lau yX1_hold cX1_hold 4 (some .int) 3 71 K (cW K ad S X) (fun _ : Unit => cW K ad (cHold S s n x) X) [.ref (ad 0), .int s, .int n, .int x] (some (.int n)) := by
  refine conI (by decide) (Nat.le_of_ble_eq_true rfl) (fun E C hR => ?_)
  show G E K 0 0 (cW K ad S X) [(0, .ref (ad 0)), (1, .int s), (2, .int n), (3, .int x)] 0 []
  refine g_aload_n (i := 0) C dX1_hold_0 rfl rfl ?_
  refine g_get C dX1_hold_1 fl_X1_9 0 rfl rfl ?_
  refine g_iload_n (i := 1) C dX1_hold_4 rfl rfl ?_
  refine g_iload_n (i := 2) C dX1_hold_5 rfl rfl ?_
  refine g_iast (Wd2 := cW K ad (S.1, S.2.1, upd S.2.2.1 s.toNatClampNeg n, S.2.2.2.1, S.2.2.2.2.1, S.2.2.2.2.2) X) C dX1_hold_6 1 rfl (isReg_in hs) rfl ?_
  refine g_aload_n (i := 0) C dX1_hold_7 rfl rfl ?_
  refine g_get C dX1_hold_8 fl_X1_13 0 rfl rfl ?_
  refine g_iload_n (i := 1) C dX1_hold_11 rfl rfl ?_
  refine g_iload_n (i := 3) C dX1_hold_12 rfl rfl ?_
  refine g_iast (Wd2 := cW K ad (S.1, S.2.1, upd S.2.2.1 s.toNatClampNeg n, upd S.2.2.2.1 s.toNatClampNeg x, S.2.2.2.2.1, S.2.2.2.2.2) X) C dX1_hold_13 2 rfl (isReg_in hs) rfl ?_
  refine g_aload_n (i := 0) C dX1_hold_14 rfl rfl ?_
  refine g_get C dX1_hold_15 fl_X1_16 0 rfl rfl ?_
  refine g_iload_n (i := 1) C dX1_hold_18 rfl rfl ?_
  refine g_iload_n (i := 2) C dX1_hold_19 rfl rfl ?_
  refine g_iload_n (i := 3) C dX1_hold_20 rfl rfl ?_
  refine g_callS (av := [.int n, .int x]) C dX1_hold_21 ln_X1_182 mf_X1_worth (kX1_worthI K (cW K ad (S.1, S.2.1, upd S.2.2.1 s.toNatClampNeg n, upd S.2.2.2.1 s.toNatClampNeg x, S.2.2.2.2.1, S.2.2.2.2.2) X) n x hn) rfl rfl (Nat.le_of_ble_eq_true rfl) ⟨Nat.le_of_ble_eq_true rfl, Nat.le_of_ble_eq_true rfl⟩ ⟨Nat.zero_le _, Nat.zero_le _⟩ (fun _ => ?_)
  refine g_last (Wd2 := cW K ad (S.1, S.2.1, upd S.2.2.1 s.toNatClampNeg n, upd S.2.2.2.1 s.toNatClampNeg x, vp_updL S.2.2.2.2.1 s.toNatClampNeg (wC x n.toNatClampNeg), S.2.2.2.2.2) X) C dX1_hold_24 3 rfl (isReg_in hs) rfl ?_
  refine g_iload_n (i := 2) C dX1_hold_25 rfl rfl ?_
  exact hR _ _ _ _ () dX1_hold_26 (rfl) (rfl)

set_option maxHeartbeats 600000 in
set_option maxRecDepth 100000 in
theorem kX1_holdSimplest (K : KT) (ad : Nat → Nat) (S : CS) (X : va_W) (s : Int32) (lo : Int64) (hi : Int64) (hs : isReg s = true) : ∀ lau : Launch, Con lau yX1_holdSimplest cX1_holdSimplest 10 (some .int) 4 94 K (cW K ad S X) (fun _ : Unit => cW K ad ((cHS S s lo hi).2) X) [.ref (ad 0), .int s, .long lo, .long hi] (some (.int ((cHS S s lo hi).1))) := by
  refine conI (by decide) (Nat.le_of_ble_eq_true rfl) (fun E C hR => ?_)
  show G E K 0 0 (cW K ad S X) [(0, .ref (ad 0)), (1, .int s), (2, .long lo), (4, .long hi)] 0 []
  refine g_iconst (v := 0) C dX1_holdSimplest_0 (by decide) ?_
  refine g_istore (lv2 := [(0, .ref (ad 0)), (1, .int s), (2, .long lo), (4, .long hi), (6, .int 0)]) C dX1_holdSimplest_1 (by decide) rfl ?_
  refine g_iconst (v := 0) C dX1_holdSimplest_3 (by decide) ?_
  refine g_istore (lv2 := [(0, .ref (ad 0)), (1, .int s), (2, .long lo), (4, .long hi), (6, .int 0), (7, .int 0)]) C dX1_holdSimplest_4 (by decide) rfl ?_
  have lp : ∀ (fuel : Nat) (n : Nat) (x : Int32), n ≤ 25 → 25 < n + fuel → hsL lo hi (25 - n) n x = hsL lo hi 25 0 0 → G E K 0 0 (cW K ad S X) [(0, .ref (ad 0)), (1, .int s), (2, .long lo), (4, .long hi), (6, .int x), (7, .int (nI n))] 6 [] := by
    intro fuel
    induction fuel with
    | zero =>
      intro n x hlp0 hlp1 hlp2
      omega
    | succ fuel ihlp =>
      intro n x hlp0 hlp1 hlp2
      refine g_iload C dX1_holdSimplest_6 rfl ?_
      refine g_bipush (v := 24) C dX1_holdSimplest_8 (by decide) ?_
      refine g_icmp_gt (tgt := 65) C dX1_holdSimplest_10 (by decide) (fun c10_1 => ?_) (fun c10_1 => ?_)
      · skip
        refine g_bipush (v := (-3)) C dX1_holdSimplest_65 (by decide) ?_
        exact hR _ _ _ _ () dX1_holdSimplest_67 (by have e : n = 25 := (by have := nge24 c10_1 (by omega); omega); subst e; rw [cHS, ← hlp2]; rfl) (by have e : n = 25 := (by have := nge24 c10_1 (by omega); omega); subst e; rw [cHS, ← hlp2]; rfl)
      · skip
        refine g_iload C dX1_holdSimplest_13 rfl ?_
        refine g_iload C dX1_holdSimplest_15 rfl ?_
        refine g_callS (av := [.int (nI n), .int x]) C dX1_holdSimplest_17 ln_X1_182 mf_X1_worth (kX1_worth K (cW K ad S X) n x (by omega)) rfl rfl (Nat.le_of_ble_eq_true rfl) ⟨Nat.le_of_ble_eq_true rfl, Nat.le_of_ble_eq_true rfl⟩ ⟨Nat.zero_le _, Nat.zero_le _⟩ (fun _ => ?_)
        refine g_lstore (lv2 := [(0, .ref (ad 0)), (1, .int s), (2, .long lo), (4, .long hi), (6, .int x), (7, .int (nI n)), (8, .long (wC x n))]) C dX1_holdSimplest_20 (by decide) rfl ?_
        refine g_lload C dX1_holdSimplest_22 rfl ?_
        refine g_lload_n (i := 2) C dX1_holdSimplest_24 rfl rfl ?_
        refine g_lcmp_ge (tgt := 41) C dX1_holdSimplest_25 dX1_holdSimplest_26 (by decide) (fun c25_2 => ?_) (fun c25_2 => ?_)
        · skip
          refine g_lload C dX1_holdSimplest_41 rfl ?_
          refine g_lload C dX1_holdSimplest_43 rfl ?_
          refine g_lcmp_gt (tgt := 59) C dX1_holdSimplest_45 dX1_holdSimplest_46 (by decide) (fun c45_3 => ?_) (fun c45_3 => ?_)
          · skip
            refine g_iinc (v := nI (n + 1)) (lv2 := [(0, .ref (ad 0)), (1, .int s), (2, .long lo), (4, .long hi), (6, .int x), (7, .int (nI (n + 1))), (8, .long (wC x n))]) C dX1_holdSimplest_59 rfl (nI_inc n) (by decide) rfl ?_
            refine g_goto (tgt := 6) C dX1_holdSimplest_62 (by decide) ?_
            exact g_lvs [0, 1, 2, 3, 4, 5] rfl (ihlp (n + 1) _ (by have := nlt24 c10_1 (by omega); omega) (by omega) (by rw [← hlp2, hsL_s (nlt24 c10_1 (by omega))]; simp [c25_2, c45_3]))
          · skip
            refine g_aload_n (i := 0) C dX1_holdSimplest_49 rfl rfl ?_
            refine g_iload_n (i := 1) C dX1_holdSimplest_50 rfl rfl ?_
            refine g_iload C dX1_holdSimplest_51 rfl ?_
            refine g_iload C dX1_holdSimplest_53 rfl ?_
            refine g_callV (av := [.int s, .int (nI n), .int x]) C dX1_holdSimplest_55 ln_X1_45 mf_X1_hold 0 rfl rfl (kX1_hold K ad S X s (nI n) x hs (nI_pos (by have := nlt24 c10_1 (by omega); omega))) rfl rfl (Nat.le_of_ble_eq_true rfl) ⟨Nat.le_of_ble_eq_true rfl, Nat.le_of_ble_eq_true rfl⟩ ⟨Nat.zero_le _, Nat.zero_le _⟩ (fun _ => ?_)
            exact hR _ _ _ _ () dX1_holdSimplest_58 (by rw [cHS, ← hlp2, hsL_s (nlt24 c10_1 (by omega))]; simp [c25_2, c45_3]) (by rw [cHS, ← hlp2, hsL_s (nlt24 c10_1 (by omega))]; simp [c25_2, c45_3])
        · skip
          refine g_iload C dX1_holdSimplest_29 rfl ?_
          refine g_iconst (v := 1) C dX1_holdSimplest_31 (by decide) ?_
          refine g_iload C dX1_holdSimplest_32 rfl ?_
          refine g_ishl C dX1_holdSimplest_34 ?_
          refine g_ior C dX1_holdSimplest_35 ?_
          refine g_istore (lv2 := [(0, .ref (ad 0)), (1, .int s), (2, .long lo), (4, .long hi), (6, .int (x ||| (1 <<< ((nI n) &&& 31)))), (7, .int (nI n)), (8, .long (wC x n))]) C dX1_holdSimplest_36 (by decide) rfl ?_
          refine g_goto (tgt := 59) C dX1_holdSimplest_38 (by decide) ?_
          refine g_iinc (v := nI (n + 1)) (lv2 := [(0, .ref (ad 0)), (1, .int s), (2, .long lo), (4, .long hi), (6, .int (x ||| (1 <<< ((nI n) &&& 31)))), (7, .int (nI (n + 1))), (8, .long (wC x n))]) C dX1_holdSimplest_59 rfl (nI_inc n) (by decide) rfl ?_
          refine g_goto (tgt := 6) C dX1_holdSimplest_62 (by decide) ?_
          exact g_lvs [0, 1, 2, 3, 4, 5] rfl (ihlp (n + 1) _ (by have := nlt24 c10_1 (by omega); omega) (by omega) (by rw [← hlp2, hsL_s (nlt24 c10_1 (by omega))]; simp [c25_2]))
  exact g_lvs [0, 1, 2, 3, 4, 5] rfl (lp 26 0 0 (by omega) (by omega) rfl)

set_option maxHeartbeats 600000 in
set_option maxRecDepth 100000 in
theorem kX1_holdValue (K : KT) (ad : Nat → Nat) (S : CS) (X : va_W) (s : Int32) (v : Int64) (hs : isReg s = true) : ∀ lau : Launch, Con lau yX1_holdValue cX1_holdValue 4 (some .int) 5 123 K (cW K ad S X) (fun _ : Unit => cW K ad ((cHV S s v).2) X) [.ref (ad 0), .int s, .long v] (some (.int ((cHV S s v).1))) := by
  refine conI (by decide) (Nat.le_of_ble_eq_true rfl) (fun E C hR => ?_)
  show G E K 0 0 (cW K ad S X) [(0, .ref (ad 0)), (1, .int s), (2, .long v)] 0 []
  refine g_aload_n (i := 0) C dX1_holdValue_0 rfl rfl ?_
  refine g_iload_n (i := 1) C dX1_holdValue_1 rfl rfl ?_
  refine g_lload_n (i := 2) C dX1_holdValue_2 rfl rfl ?_
  refine g_lload_n (i := 2) C dX1_holdValue_3 rfl rfl ?_
  refine g_callV (av := [.int s, .long v, .long v]) C dX1_holdValue_4 ln_X1_92 mf_X1_holdSimplest 0 rfl rfl (kX1_holdSimplest K ad S X s v v hs) rfl rfl (Nat.le_of_ble_eq_true rfl) ⟨Nat.le_of_ble_eq_true rfl, Nat.le_of_ble_eq_true rfl⟩ ⟨Nat.zero_le _, Nat.zero_le _⟩ (fun _ => ?_)
  exact hR _ _ _ _ () dX1_holdValue_7 (rfl) (rfl)

set_option maxHeartbeats 600000 in
set_option maxRecDepth 100000 in
theorem kX1_holdProduct (K : KT) (ad : Nat → Nat) (S : CS) (X : va_W) (s : Int32) (v : Int64) (hs : isReg s = true) : ∀ lau : Launch, Con lau yX1_holdProduct cX1_holdProduct 4 (some .int) 6 146 K (cW K ad S X) (fun _ : Unit => cW K ad ((cHP S s v).2) X) [.ref (ad 0), .int s, .long v] (some (.int ((cHP S s v).1))) := by
  refine conI (by decide) (Nat.le_of_ble_eq_true rfl) (fun E C hR => ?_)
  show G E K 0 0 (cW K ad S X) [(0, .ref (ad 0)), (1, .int s), (2, .long v)] 0 []
  refine g_lload_n (i := 2) C dX1_holdProduct_0 rfl rfl ?_
  refine g_ldc2 (v := 8388608) C dX1_holdProduct_1 kc_X1_186 ?_
  refine g_lrem C dX1_holdProduct_4 (by decide) ?_
  refine g_lconst (v := 0) C dX1_holdProduct_5 (by decide) ?_
  refine g_lcmp_eq (tgt := 13) C dX1_holdProduct_6 dX1_holdProduct_7 (by decide) (fun c6_1 => ?_) (fun c6_1 => ?_)
  · skip
    refine g_aload_n (i := 0) C dX1_holdProduct_13 rfl rfl ?_
    refine g_iload_n (i := 1) C dX1_holdProduct_14 rfl rfl ?_
    refine g_lload_n (i := 2) C dX1_holdProduct_15 rfl rfl ?_
    refine g_ldc2 (v := 8388608) C dX1_holdProduct_16 kc_X1_186 ?_
    refine g_ldiv C dX1_holdProduct_19 (by decide) ?_
    refine g_callV (av := [.int s, .long (v / 8388608)]) C dX1_holdProduct_20 ln_X1_53 mf_X1_holdValue 0 rfl rfl (kX1_holdValue K ad S X s (v / 8388608) hs) rfl rfl (Nat.le_of_ble_eq_true rfl) ⟨Nat.le_of_ble_eq_true rfl, Nat.le_of_ble_eq_true rfl⟩ ⟨Nat.zero_le _, Nat.zero_le _⟩ (fun _ => ?_)
    exact hR _ _ _ _ () dX1_holdProduct_23 (by rw [cHP, if_pos c6_1] <;> rfl) (by show _ = cW K ad (cHP S s v).2 X; rw [cHP, if_pos c6_1] <;> rfl)
  · skip
    refine g_bipush (v := (-3)) C dX1_holdProduct_10 (by decide) ?_
    exact hR _ _ _ _ () dX1_holdProduct_12 (by rw [cHP, if_neg c6_1] <;> rfl) (by show _ = cW K ad (cHP S s v).2 X; rw [cHP, if_neg c6_1] <;> rfl)

set_option maxHeartbeats 600000 in
set_option maxRecDepth 100000 in
theorem kX1_row (K : KT) (ad : Nat → Nat) (S : CS) (X : va_W) (s : Int32) (n : Int32) (x : Int32) : ∀ lau : Launch, Con lau yX1_row cX1_row 4 (some .int) 4 94 K (cW K ad S X) (fun _ : Unit => cW K ad ((cRow S s n x).2) X) [.ref (ad 0), .int s, .int n, .int x] (some (.int ((cRow S s n x).1))) := by
  refine conI (by decide) (Nat.le_of_ble_eq_true rfl) (fun E C hR => ?_)
  show G E K 0 0 (cW K ad S X) [(0, .ref (ad 0)), (1, .int s), (2, .int n), (3, .int x)] 0 []
  refine g_iload_n (i := 1) C dX1_row_0 rfl rfl ?_
  refine g_callS (av := [.int s]) C dX1_row_1 ln_X1_41 mf_X1_isRegister (kX1_isRegister K (cW K ad S X) s) rfl rfl (Nat.le_of_ble_eq_true rfl) ⟨Nat.le_of_ble_eq_true rfl, Nat.le_of_ble_eq_true rfl⟩ ⟨Nat.zero_le _, Nat.zero_le _⟩ (fun _ => ?_)
  refine g_bz_eq (tgt := 23) C dX1_row_4 (by decide) (fun c4_1 => ?_) (fun c4_1 => ?_)
  · skip
    refine g_iconst (v := (-1)) C dX1_row_23 (by decide) ?_
    exact hR _ _ _ _ () dX1_row_24 (by rw [cRow, c4_1, cond_false] <;> rfl) (by show _ = cW K ad (cRow S s n x).2 X; rw [cRow, c4_1, cond_false] <;> rfl)
  · skip
    refine g_iload_n (i := 2) C dX1_row_7 rfl rfl ?_
    refine g_if_lt (tgt := 23) C dX1_row_8 (by decide) (fun c8_2 => ?_) (fun c8_2 => ?_)
    · skip
      refine g_iconst (v := (-1)) C dX1_row_23 (by decide) ?_
      exact hR _ _ _ _ () dX1_row_24 (by rw [cRow, c4_1, cond_true, if_pos c8_2] <;> rfl) (by show _ = cW K ad (cRow S s n x).2 X; rw [cRow, c4_1, cond_true, if_pos c8_2] <;> rfl)
    · skip
      refine g_iload_n (i := 2) C dX1_row_11 rfl rfl ?_
      refine g_bipush (v := 24) C dX1_row_12 (by decide) ?_
      refine g_icmp_gt (tgt := 23) C dX1_row_14 (by decide) (fun c14_3 => ?_) (fun c14_3 => ?_)
      · skip
        refine g_iconst (v := (-1)) C dX1_row_23 (by decide) ?_
        exact hR _ _ _ _ () dX1_row_24 (by rw [cRow, c4_1, cond_true, if_neg c8_2, if_pos c14_3] <;> rfl) (by show _ = cW K ad (cRow S s n x).2 X; rw [cRow, c4_1, cond_true, if_neg c8_2, if_pos c14_3] <;> rfl)
      · skip
        refine g_iload_n (i := 3) C dX1_row_17 rfl rfl ?_
        refine g_iload_n (i := 2) C dX1_row_18 rfl rfl ?_
        refine g_iushr (v := ushrI x n) C dX1_row_19 rfl ?_
        refine g_if_eq (tgt := 25) C dX1_row_20 (by decide) (fun c20_4 => ?_) (fun c20_4 => ?_)
        · skip
          refine g_aload_n (i := 0) C dX1_row_25 rfl rfl ?_
          refine g_iload_n (i := 1) C dX1_row_26 rfl rfl ?_
          refine g_iload_n (i := 2) C dX1_row_27 rfl rfl ?_
          refine g_iload_n (i := 3) C dX1_row_28 rfl rfl ?_
          refine g_callV (av := [.int s, .int n, .int x]) C dX1_row_29 ln_X1_45 mf_X1_hold 0 rfl rfl (kX1_hold K ad S X s n x c4_1 c8_2) rfl rfl (Nat.le_of_ble_eq_true rfl) ⟨Nat.le_of_ble_eq_true rfl, Nat.le_of_ble_eq_true rfl⟩ ⟨Nat.zero_le _, Nat.zero_le _⟩ (fun _ => ?_)
          exact hR _ _ _ _ () dX1_row_32 (by rw [cRow, c4_1, cond_true, if_neg c8_2, if_neg c14_3, if_pos c20_4] <;> rfl) (by show _ = cW K ad (cRow S s n x).2 X; rw [cRow, c4_1, cond_true, if_neg c8_2, if_neg c14_3, if_pos c20_4] <;> rfl)
        · skip
          refine g_iconst (v := (-1)) C dX1_row_23 (by decide) ?_
          exact hR _ _ _ _ () dX1_row_24 (by rw [cRow, c4_1, cond_true, if_neg c8_2, if_neg c14_3, if_neg c20_4] <;> rfl) (by show _ = cW K ad (cRow S s n x).2 X; rw [cRow, c4_1, cond_true, if_neg c8_2, if_neg c14_3, if_neg c20_4] <;> rfl)

set_option maxHeartbeats 600000 in
set_option maxRecDepth 100000 in
theorem kX1_number (K : KT) (ad : Nat → Nat) (S : CS) (X : va_W) (s : Int32) (a : Int32) (k : Int32) : ∀ lau : Launch, Con lau yX1_number cX1_number 4 (some .int) 6 146 K (cW K ad S X) (fun _ : Unit => cW K ad ((cNum S s a k).2) X) [.ref (ad 0), .int s, .int a, .int k] (some (.int ((cNum S s a k).1))) := by
  refine conI (by decide) (Nat.le_of_ble_eq_true rfl) (fun E C hR => ?_)
  show G E K 0 0 (cW K ad S X) [(0, .ref (ad 0)), (1, .int s), (2, .int a), (3, .int k)] 0 []
  refine g_iload_n (i := 1) C dX1_number_0 rfl rfl ?_
  refine g_callS (av := [.int s]) C dX1_number_1 ln_X1_41 mf_X1_isRegister (kX1_isRegister K (cW K ad S X) s) rfl rfl (Nat.le_of_ble_eq_true rfl) ⟨Nat.le_of_ble_eq_true rfl, Nat.le_of_ble_eq_true rfl⟩ ⟨Nat.zero_le _, Nat.zero_le _⟩ (fun _ => ?_)
  refine g_bz_eq (tgt := 15) C dX1_number_4 (by decide) (fun c4_1 => ?_) (fun c4_1 => ?_)
  · skip
    refine g_iconst (v := (-1)) C dX1_number_15 (by decide) ?_
    exact hR _ _ _ _ () dX1_number_16 (by rw [cNum, c4_1, cond_false] <;> rfl) (by show _ = cW K ad (cNum S s a k).2 X; rw [cNum, c4_1, cond_false] <;> rfl)
  · skip
    refine g_iload_n (i := 2) C dX1_number_7 rfl rfl ?_
    refine g_iload_n (i := 3) C dX1_number_8 rfl rfl ?_
    refine g_callS (av := [.int a, .int k]) C dX1_number_9 ln_X1_49 mf_X1_isFraction (kX1_isFraction K (cW K ad S X) a k) rfl rfl (Nat.le_of_ble_eq_true rfl) ⟨Nat.le_of_ble_eq_true rfl, Nat.le_of_ble_eq_true rfl⟩ ⟨Nat.zero_le _, Nat.zero_le _⟩ (fun _ => ?_)
    refine g_bz_ne (tgt := 17) C dX1_number_12 (by decide) (fun c12_2 => ?_) (fun c12_2 => ?_)
    · skip
      refine g_aload_n (i := 0) C dX1_number_17 rfl rfl ?_
      refine g_iload_n (i := 1) C dX1_number_18 rfl rfl ?_
      refine g_iload_n (i := 2) C dX1_number_19 rfl rfl ?_
      refine g_i2l (v := Int32.toInt64 a) C dX1_number_20 rfl ?_
      refine g_bipush (v := 23) C dX1_number_21 (by decide) ?_
      refine g_iload_n (i := 3) C dX1_number_23 rfl rfl ?_
      refine g_isub C dX1_number_24 ?_
      refine g_lshl (v := shlL (Int32.toInt64 a) (23 - k)) C dX1_number_25 rfl ?_
      refine g_callV (av := [.int s, .long (shlL (Int32.toInt64 a) (23 - k))]) C dX1_number_26 ln_X1_53 mf_X1_holdValue 0 rfl rfl (kX1_holdValue K ad S X s (shlL (Int32.toInt64 a) (23 - k)) c4_1) rfl rfl (Nat.le_of_ble_eq_true rfl) ⟨Nat.le_of_ble_eq_true rfl, Nat.le_of_ble_eq_true rfl⟩ ⟨Nat.zero_le _, Nat.zero_le _⟩ (fun _ => ?_)
      exact hR _ _ _ _ () dX1_number_29 (by rw [cNum, c4_1, cond_true, c12_2, cond_true] <;> rfl) (by show _ = cW K ad (cNum S s a k).2 X; rw [cNum, c4_1, cond_true, c12_2, cond_true] <;> rfl)
    · skip
      refine g_iconst (v := (-1)) C dX1_number_15 (by decide) ?_
      exact hR _ _ _ _ () dX1_number_16 (by rw [cNum, c4_1, cond_true, c12_2, cond_false] <;> rfl) (by show _ = cW K ad (cNum S s a k).2 X; rw [cNum, c4_1, cond_true, c12_2, cond_false] <;> rfl)

set_option maxHeartbeats 600000 in
set_option maxRecDepth 100000 in
theorem kX1_at (K : KT) (ad : Nat → Nat) (S : CS) (X : va_W) (s : Int32) (i : Int32) : ∀ lau : Launch, Con lau yX1_at cX1_at 3 (some .int) 2 42 K (cW K ad S X) (fun _ : Unit => cW K ad S X) [.ref (ad 0), .int s, .int i] (some (.int (cAt S s i))) := by
  refine conI (by decide) (Nat.le_of_ble_eq_true rfl) (fun E C hR => ?_)
  show G E K 0 0 (cW K ad S X) [(0, .ref (ad 0)), (1, .int s), (2, .int i)] 0 []
  refine g_iload_n (i := 1) C dX1_at_0 rfl rfl ?_
  refine g_callS (av := [.int s]) C dX1_at_1 ln_X1_41 mf_X1_isRegister (kX1_isRegister K (cW K ad S X) s) rfl rfl (Nat.le_of_ble_eq_true rfl) ⟨Nat.le_of_ble_eq_true rfl, Nat.le_of_ble_eq_true rfl⟩ ⟨Nat.zero_le _, Nat.zero_le _⟩ (fun _ => ?_)
  refine g_bz_eq (tgt := 12) C dX1_at_4 (by decide) (fun c4_1 => ?_) (fun c4_1 => ?_)
  · skip
    refine g_iconst (v := (-1)) C dX1_at_12 (by decide) ?_
    exact hR _ _ _ _ () dX1_at_13 (by simp [cAt, dyC, sgC, c4_1] <;> first | done | simp_all [bz, dyC, sgC]) (rfl)
  · skip
    refine g_iload_n (i := 2) C dX1_at_7 rfl rfl ?_
    refine g_iconst (v := (-1)) C dX1_at_8 (by decide) ?_
    refine g_icmp_ge (tgt := 14) C dX1_at_9 (by decide) (fun c9_2 => ?_) (fun c9_2 => ?_)
    · skip
      refine g_iload_n (i := 2) C dX1_at_14 rfl rfl ?_
      refine g_iconst (v := (-1)) C dX1_at_15 (by decide) ?_
      refine g_icmp_ne (tgt := 26) C dX1_at_16 (by decide) (fun c16_3 => ?_) (fun c16_3 => ?_)
      · skip
        refine g_iload_n (i := 2) C dX1_at_26 rfl rfl ?_
        refine g_aload_n (i := 0) C dX1_at_27 rfl rfl ?_
        refine g_get C dX1_at_28 fl_X1_9 0 rfl rfl ?_
        refine g_iload_n (i := 1) C dX1_at_31 rfl rfl ?_
        refine g_iald C dX1_at_32 1 rfl (isReg_in c4_1) ?_
        refine g_icmp_lt (tgt := 39) C dX1_at_33 (by decide) (fun c33_4 => ?_) (fun c33_4 => ?_)
        · skip
          refine g_aload_n (i := 0) C dX1_at_39 rfl rfl ?_
          refine g_get C dX1_at_40 fl_X1_13 0 rfl rfl ?_
          refine g_iload_n (i := 1) C dX1_at_43 rfl rfl ?_
          refine g_iald C dX1_at_44 2 rfl (isReg_in c4_1) ?_
          refine g_iload_n (i := 2) C dX1_at_45 rfl rfl ?_
          refine g_callS (av := [.int (S.2.2.2.1 s.toNatClampNeg), .int i]) C dX1_at_46 ln_X1_57 mf_X1_isPlus (kX1_isPlus K (cW K ad S X) (S.2.2.2.1 s.toNatClampNeg) i) rfl rfl (Nat.le_of_ble_eq_true rfl) ⟨Nat.le_of_ble_eq_true rfl, Nat.le_of_ble_eq_true rfl⟩ ⟨Nat.zero_le _, Nat.zero_le _⟩ (fun _ => ?_)
          refine g_bz_eq (tgt := 56) C dX1_at_49 (by decide) (fun c49_5 => ?_) (fun c49_5 => ?_)
          · skip
            refine g_iconst (v := 0) C dX1_at_56 (by decide) ?_
            exact hR _ _ _ _ () dX1_at_57 (by simp [cAt, dyC, sgC, c4_1, c9_2, c16_3, c33_4, c49_5] <;> first | done | simp_all [bz, dyC, sgC]) (rfl)
          · skip
            refine g_iconst (v := 1) C dX1_at_52 (by decide) ?_
            refine g_goto (tgt := 57) C dX1_at_53 (by decide) ?_
            exact hR _ _ _ _ () dX1_at_57 (by simp [cAt, dyC, sgC, c4_1, c9_2, c16_3, c33_4, c49_5] <;> first | done | simp_all [bz, dyC, sgC]) (rfl)
        · skip
          refine g_bipush (v := (-4)) C dX1_at_36 (by decide) ?_
          exact hR _ _ _ _ () dX1_at_38 (by simp [cAt, dyC, sgC, c4_1, c9_2, c16_3, c33_4] <;> first | done | simp_all [bz, dyC, sgC]) (rfl)
      · skip
        refine g_aload_n (i := 0) C dX1_at_19 rfl rfl ?_
        refine g_get C dX1_at_20 fl_X1_9 0 rfl rfl ?_
        refine g_iload_n (i := 1) C dX1_at_23 rfl rfl ?_
        refine g_iald C dX1_at_24 1 rfl (isReg_in c4_1) ?_
        exact hR _ _ _ _ () dX1_at_25 (by simp [cAt, dyC, sgC, c4_1, c9_2, c16_3] <;> first | done | simp_all [bz, dyC, sgC]) (rfl)
    · skip
      refine g_iconst (v := (-1)) C dX1_at_12 (by decide) ?_
      exact hR _ _ _ _ () dX1_at_13 (by simp [cAt, dyC, sgC, c4_1, c9_2] <;> first | done | simp_all [bz, dyC, sgC]) (rfl)

set_option maxHeartbeats 600000 in
set_option maxRecDepth 100000 in
theorem kX1_value (K : KT) (ad : Nat → Nat) (S : CS) (X : va_W) (s : Int32) (w : Int32) : ∀ lau : Launch, Con lau yX1_value cX1_value 3 (some .int) 4 86 K (cW K ad S X) (fun _ : Unit => cW K ad S X) [.ref (ad 0), .int s, .int w] (some (.int (cVal S s w))) := by
  refine conI (by decide) (Nat.le_of_ble_eq_true rfl) (fun E C hR => ?_)
  show G E K 0 0 (cW K ad S X) [(0, .ref (ad 0)), (1, .int s), (2, .int w)] 0 []
  refine g_iload_n (i := 1) C dX1_value_0 rfl rfl ?_
  refine g_callS (av := [.int s]) C dX1_value_1 ln_X1_41 mf_X1_isRegister (kX1_isRegister K (cW K ad S X) s) rfl rfl (Nat.le_of_ble_eq_true rfl) ⟨Nat.le_of_ble_eq_true rfl, Nat.le_of_ble_eq_true rfl⟩ ⟨Nat.zero_le _, Nat.zero_le _⟩ (fun _ => ?_)
  refine g_bz_eq (tgt := 16) C dX1_value_4 (by decide) (fun c4_1 => ?_) (fun c4_1 => ?_)
  · skip
    refine g_ldc (v := (-1000000000)) C dX1_value_16 kc_X1_60 ?_
    exact hR _ _ _ _ () dX1_value_18 (by rw [cVal, c4_1, cond_false] <;> rfl) (rfl)
  · skip
    refine g_iload_n (i := 2) C dX1_value_7 rfl rfl ?_
    refine g_if_lt (tgt := 16) C dX1_value_8 (by decide) (fun c8_2 => ?_) (fun c8_2 => ?_)
    · skip
      refine g_ldc (v := (-1000000000)) C dX1_value_16 kc_X1_60 ?_
      exact hR _ _ _ _ () dX1_value_18 (by rw [cVal, c4_1, cond_true, if_pos c8_2] <;> rfl) (rfl)
    · skip
      refine g_iload_n (i := 2) C dX1_value_11 rfl rfl ?_
      refine g_iconst (v := 1) C dX1_value_12 (by decide) ?_
      refine g_icmp_le (tgt := 19) C dX1_value_13 (by decide) (fun c13_3 => ?_) (fun c13_3 => ?_)
      · skip
        refine g_iload_n (i := 2) C dX1_value_19 rfl rfl ?_
        refine g_if_ne (tgt := 37) C dX1_value_20 (by decide) (fun c20_4 => ?_) (fun c20_4 => ?_)
        · skip
          refine g_aload_n (i := 0) C dX1_value_37 rfl rfl ?_
          refine g_get C dX1_value_38 fl_X1_16 0 rfl rfl ?_
          refine g_iload_n (i := 1) C dX1_value_41 rfl rfl ?_
          refine g_lald C dX1_value_42 3 rfl (isReg_in c4_1) ?_
          refine g_bipush (v := 23) C dX1_value_43 (by decide) ?_
          refine g_callS (av := [.long (S.2.2.2.2.1 s.toNatClampNeg), .int 23]) C dX1_value_45 ln_X1_65 mf_X1_leastBelow (kX1_leastBelow K (cW K ad S X) (S.2.2.2.2.1 s.toNatClampNeg) 23) rfl rfl (Nat.le_of_ble_eq_true rfl) ⟨Nat.le_of_ble_eq_true rfl, Nat.le_of_ble_eq_true rfl⟩ ⟨Nat.zero_le _, Nat.zero_le _⟩ (fun _ => ?_)
          exact hR _ _ _ _ () dX1_value_48 (by rw [cVal, c4_1, cond_true, if_neg c8_2, if_pos c13_3, if_neg c20_4] <;> rfl) (rfl)
        · skip
          refine g_aload_n (i := 0) C dX1_value_23 rfl rfl ?_
          refine g_get C dX1_value_24 fl_X1_16 0 rfl rfl ?_
          refine g_iload_n (i := 1) C dX1_value_27 rfl rfl ?_
          refine g_lald C dX1_value_28 3 rfl (isReg_in c4_1) ?_
          refine g_bipush (v := 23) C dX1_value_29 (by decide) ?_
          refine g_callS (av := [.long (S.2.2.2.2.1 s.toNatClampNeg), .int 23]) C dX1_value_31 ln_X1_61 mf_X1_leastAbove (kX1_leastAbove K (cW K ad S X) (S.2.2.2.2.1 s.toNatClampNeg) 23) rfl rfl (Nat.le_of_ble_eq_true rfl) ⟨Nat.le_of_ble_eq_true rfl, Nat.le_of_ble_eq_true rfl⟩ ⟨Nat.zero_le _, Nat.zero_le _⟩ (fun _ => ?_)
          refine g_goto (tgt := 48) C dX1_value_34 (by decide) ?_
          exact hR _ _ _ _ () dX1_value_48 (by rw [cVal, c4_1, cond_true, if_neg c8_2, if_pos c13_3, if_pos c20_4] <;> rfl) (rfl)
      · skip
        refine g_ldc (v := (-1000000000)) C dX1_value_16 kc_X1_60 ?_
        exact hR _ _ _ _ () dX1_value_18 (by rw [cVal, c4_1, cond_true, if_neg c8_2, if_neg c13_3] <;> rfl) (rfl)

set_option maxHeartbeats 600000 in
set_option maxRecDepth 100000 in
theorem kX1_against (K : KT) (ad : Nat → Nat) (S : CS) (X : va_W) (s : Int32) (t : Int32) : ∀ lau : Launch, Con lau yX1_against cX1_against 3 (some .int) 1 21 K (cW K ad S X) (fun _ : Unit => cW K ad S X) [.ref (ad 0), .int s, .int t] (some (.int (cAgn S s t))) := by
  refine conI (by decide) (Nat.le_of_ble_eq_true rfl) (fun E C hR => ?_)
  show G E K 0 0 (cW K ad S X) [(0, .ref (ad 0)), (1, .int s), (2, .int t)] 0 []
  refine g_iload_n (i := 1) C dX1_against_0 rfl rfl ?_
  refine g_callS (av := [.int s]) C dX1_against_1 ln_X1_41 mf_X1_isRegister (kX1_isRegister K (cW K ad S X) s) rfl rfl (Nat.le_of_ble_eq_true rfl) ⟨Nat.le_of_ble_eq_true rfl, Nat.le_of_ble_eq_true rfl⟩ ⟨Nat.zero_le _, Nat.zero_le _⟩ (fun _ => ?_)
  refine g_bz_eq (tgt := 14) C dX1_against_4 (by decide) (fun c4_1 => ?_) (fun c4_1 => ?_)
  · skip
    refine g_bipush (v := (-9)) C dX1_against_14 (by decide) ?_
    exact hR _ _ _ _ () dX1_against_16 (by rw [cAgn, c4_1, cond_false] <;> rfl) (rfl)
  · skip
    refine g_iload_n (i := 2) C dX1_against_7 rfl rfl ?_
    refine g_callS (av := [.int t]) C dX1_against_8 ln_X1_41 mf_X1_isRegister (kX1_isRegister K (cW K ad S X) t) rfl rfl (Nat.le_of_ble_eq_true rfl) ⟨Nat.le_of_ble_eq_true rfl, Nat.le_of_ble_eq_true rfl⟩ ⟨Nat.zero_le _, Nat.zero_le _⟩ (fun _ => ?_)
    refine g_bz_ne (tgt := 17) C dX1_against_11 (by decide) (fun c11_2 => ?_) (fun c11_2 => ?_)
    · skip
      refine g_aload_n (i := 0) C dX1_against_17 rfl rfl ?_
      refine g_get C dX1_against_18 fl_X1_16 0 rfl rfl ?_
      refine g_iload_n (i := 1) C dX1_against_21 rfl rfl ?_
      refine g_lald C dX1_against_22 3 rfl (isReg_in c4_1) ?_
      refine g_aload_n (i := 0) C dX1_against_23 rfl rfl ?_
      refine g_get C dX1_against_24 fl_X1_16 0 rfl rfl ?_
      refine g_iload_n (i := 2) C dX1_against_27 rfl rfl ?_
      refine g_lald C dX1_against_28 3 rfl (isReg_in c11_2) ?_
      refine g_lsub C dX1_against_29 ?_
      refine g_callS (av := [.long ((S.2.2.2.2.1 s.toNatClampNeg) - (S.2.2.2.2.1 t.toNatClampNeg))]) C dX1_against_30 ln_X1_68 mf_X1_signOf (kX1_signOf K (cW K ad S X) ((S.2.2.2.2.1 s.toNatClampNeg) - (S.2.2.2.2.1 t.toNatClampNeg))) rfl rfl (Nat.le_of_ble_eq_true rfl) ⟨Nat.le_of_ble_eq_true rfl, Nat.le_of_ble_eq_true rfl⟩ ⟨Nat.zero_le _, Nat.zero_le _⟩ (fun _ => ?_)
      exact hR _ _ _ _ () dX1_against_33 (by rw [cAgn, c4_1, cond_true, c11_2, cond_true] <;> rfl) (rfl)
    · skip
      refine g_bipush (v := (-9)) C dX1_against_14 (by decide) ?_
      exact hR _ _ _ _ () dX1_against_16 (by rw [cAgn, c4_1, cond_true, c11_2, cond_false] <;> rfl) (rfl)

set_option maxHeartbeats 600000 in
set_option maxRecDepth 100000 in
theorem kX1_work (K : KT) (ad : Nat → Nat) (S : CS) (X : va_W) (s : Int32) (how : Int32) (t : Int32) (u : Int32) : ∀ lau : Launch, Con lau yX1_work cX1_work 5 (some .int) 7 169 K (cW K ad S X) (fun _ : Unit => cW K ad ((cWork S s how t u).2) X) [.ref (ad 0), .int s, .int how, .int t, .int u] (some (.int ((cWork S s how t u).1))) := by
  refine conI (by decide) (Nat.le_of_ble_eq_true rfl) (fun E C hR => ?_)
  show G E K 0 0 (cW K ad S X) [(0, .ref (ad 0)), (1, .int s), (2, .int how), (3, .int t), (4, .int u)] 0 []
  refine g_iload_n (i := 1) C dX1_work_0 rfl rfl ?_
  refine g_callS (av := [.int s]) C dX1_work_1 ln_X1_41 mf_X1_isRegister (kX1_isRegister K (cW K ad S X) s) rfl rfl (Nat.le_of_ble_eq_true rfl) ⟨Nat.le_of_ble_eq_true rfl, Nat.le_of_ble_eq_true rfl⟩ ⟨Nat.zero_le _, Nat.zero_le _⟩ (fun _ => ?_)
  refine g_bz_eq (tgt := 23) C dX1_work_4 (by decide) (fun c4_1 => ?_) (fun c4_1 => ?_)
  · skip
    refine g_iconst (v := (-1)) C dX1_work_23 (by decide) ?_
    exact hR _ _ _ _ () dX1_work_24 (by rw [cWork, c4_1, cond_false] <;> rfl) (by show _ = cW K ad (cWork S s how t u).2 X; rw [cWork, c4_1, cond_false] <;> rfl)
  · skip
    refine g_iload_n (i := 2) C dX1_work_7 rfl rfl ?_
    refine g_if_lt (tgt := 23) C dX1_work_8 (by decide) (fun c8_2 => ?_) (fun c8_2 => ?_)
    · skip
      refine g_iconst (v := (-1)) C dX1_work_23 (by decide) ?_
      exact hR _ _ _ _ () dX1_work_24 (by rw [cWork, c4_1, cond_true, if_pos c8_2] <;> rfl) (by show _ = cW K ad (cWork S s how t u).2 X; rw [cWork, c4_1, cond_true, if_pos c8_2] <;> rfl)
    · skip
      refine g_iload_n (i := 2) C dX1_work_11 rfl rfl ?_
      refine g_iconst (v := 3) C dX1_work_12 (by decide) ?_
      refine g_icmp_gt (tgt := 23) C dX1_work_13 (by decide) (fun c13_3 => ?_) (fun c13_3 => ?_)
      · skip
        refine g_iconst (v := (-1)) C dX1_work_23 (by decide) ?_
        exact hR _ _ _ _ () dX1_work_24 (by rw [cWork, c4_1, cond_true, if_neg c8_2, if_pos c13_3] <;> rfl) (by show _ = cW K ad (cWork S s how t u).2 X; rw [cWork, c4_1, cond_true, if_neg c8_2, if_pos c13_3] <;> rfl)
      · skip
        refine g_iload_n (i := 3) C dX1_work_16 rfl rfl ?_
        refine g_callS (av := [.int t]) C dX1_work_17 ln_X1_41 mf_X1_isRegister (kX1_isRegister K (cW K ad S X) t) rfl rfl (Nat.le_of_ble_eq_true rfl) ⟨Nat.le_of_ble_eq_true rfl, Nat.le_of_ble_eq_true rfl⟩ ⟨Nat.zero_le _, Nat.zero_le _⟩ (fun _ => ?_)
        refine g_bz_ne (tgt := 25) C dX1_work_20 (by decide) (fun c20_4 => ?_) (fun c20_4 => ?_)
        · skip
          refine g_iload_n (i := 2) C dX1_work_25 rfl rfl ?_
          refine g_iconst (v := 3) C dX1_work_26 (by decide) ?_
          refine g_icmp_ne (tgt := 43) C dX1_work_27 (by decide) (fun c27_5 => ?_) (fun c27_5 => ?_)
          · skip
            refine g_iload C dX1_work_43 rfl ?_
            refine g_callS (av := [.int u]) C dX1_work_45 ln_X1_41 mf_X1_isRegister (kX1_isRegister K (cW K ad S X) u) rfl rfl (Nat.le_of_ble_eq_true rfl) ⟨Nat.le_of_ble_eq_true rfl, Nat.le_of_ble_eq_true rfl⟩ ⟨Nat.zero_le _, Nat.zero_le _⟩ (fun _ => ?_)
            refine g_bz_ne (tgt := 53) C dX1_work_48 (by decide) (fun c48_6 => ?_) (fun c48_6 => ?_)
            · skip
              refine g_iload_n (i := 2) C dX1_work_53 rfl rfl ?_
              refine g_iconst (v := 2) C dX1_work_54 (by decide) ?_
              refine g_icmp_ne (tgt := 78) C dX1_work_55 (by decide) (fun c55_7 => ?_) (fun c55_7 => ?_)
              · skip
                refine g_aload_n (i := 0) C dX1_work_78 rfl rfl ?_
                refine g_iload_n (i := 1) C dX1_work_79 rfl rfl ?_
                refine g_iload_n (i := 2) C dX1_work_80 rfl rfl ?_
                refine g_if_ne (tgt := 101) C dX1_work_81 (by decide) (fun c81_8 => ?_) (fun c81_8 => ?_)
                · skip
                  refine g_aload_n (i := 0) C dX1_work_101 rfl rfl ?_
                  refine g_get C dX1_work_102 fl_X1_16 0 rfl rfl ?_
                  refine g_iload_n (i := 3) C dX1_work_105 rfl rfl ?_
                  refine g_lald C dX1_work_106 3 rfl (isReg_in c20_4) ?_
                  refine g_aload_n (i := 0) C dX1_work_107 rfl rfl ?_
                  refine g_get C dX1_work_108 fl_X1_16 0 rfl rfl ?_
                  refine g_iload C dX1_work_111 rfl ?_
                  refine g_lald C dX1_work_113 3 rfl (isReg_in c48_6) ?_
                  refine g_lsub C dX1_work_114 ?_
                  refine g_callV (av := [.int s, .long ((S.2.2.2.2.1 t.toNatClampNeg) - (S.2.2.2.2.1 u.toNatClampNeg))]) C dX1_work_115 ln_X1_53 mf_X1_holdValue 0 rfl rfl (kX1_holdValue K ad S X s ((S.2.2.2.2.1 t.toNatClampNeg) - (S.2.2.2.2.1 u.toNatClampNeg)) c4_1) rfl rfl (Nat.le_of_ble_eq_true rfl) ⟨Nat.le_of_ble_eq_true rfl, Nat.le_of_ble_eq_true rfl⟩ ⟨Nat.zero_le _, Nat.zero_le _⟩ (fun _ => ?_)
                  exact hR _ _ _ _ () dX1_work_118 (by rw [cWork, c4_1, cond_true, if_neg c8_2, if_neg c13_3, c20_4, cond_true, if_neg c27_5, c48_6, cond_true, if_neg c55_7, if_neg c81_8] <;> rfl) (by show _ = cW K ad (cWork S s how t u).2 X; rw [cWork, c4_1, cond_true, if_neg c8_2, if_neg c13_3, c20_4, cond_true, if_neg c27_5, c48_6, cond_true, if_neg c55_7, if_neg c81_8] <;> rfl)
                · skip
                  refine g_aload_n (i := 0) C dX1_work_84 rfl rfl ?_
                  refine g_get C dX1_work_85 fl_X1_16 0 rfl rfl ?_
                  refine g_iload_n (i := 3) C dX1_work_88 rfl rfl ?_
                  refine g_lald C dX1_work_89 3 rfl (isReg_in c20_4) ?_
                  refine g_aload_n (i := 0) C dX1_work_90 rfl rfl ?_
                  refine g_get C dX1_work_91 fl_X1_16 0 rfl rfl ?_
                  refine g_iload C dX1_work_94 rfl ?_
                  refine g_lald C dX1_work_96 3 rfl (isReg_in c48_6) ?_
                  refine g_ladd C dX1_work_97 ?_
                  refine g_goto (tgt := 115) C dX1_work_98 (by decide) ?_
                  refine g_callV (av := [.int s, .long ((S.2.2.2.2.1 t.toNatClampNeg) + (S.2.2.2.2.1 u.toNatClampNeg))]) C dX1_work_115 ln_X1_53 mf_X1_holdValue 0 rfl rfl (kX1_holdValue K ad S X s ((S.2.2.2.2.1 t.toNatClampNeg) + (S.2.2.2.2.1 u.toNatClampNeg)) c4_1) rfl rfl (Nat.le_of_ble_eq_true rfl) ⟨Nat.le_of_ble_eq_true rfl, Nat.le_of_ble_eq_true rfl⟩ ⟨Nat.zero_le _, Nat.zero_le _⟩ (fun _ => ?_)
                  exact hR _ _ _ _ () dX1_work_118 (by rw [cWork, c4_1, cond_true, if_neg c8_2, if_neg c13_3, c20_4, cond_true, if_neg c27_5, c48_6, cond_true, if_neg c55_7, if_pos c81_8] <;> rfl) (by show _ = cW K ad (cWork S s how t u).2 X; rw [cWork, c4_1, cond_true, if_neg c8_2, if_neg c13_3, c20_4, cond_true, if_neg c27_5, c48_6, cond_true, if_neg c55_7, if_pos c81_8] <;> rfl)
              · skip
                refine g_aload_n (i := 0) C dX1_work_58 rfl rfl ?_
                refine g_iload_n (i := 1) C dX1_work_59 rfl rfl ?_
                refine g_aload_n (i := 0) C dX1_work_60 rfl rfl ?_
                refine g_get C dX1_work_61 fl_X1_16 0 rfl rfl ?_
                refine g_iload_n (i := 3) C dX1_work_64 rfl rfl ?_
                refine g_lald C dX1_work_65 3 rfl (isReg_in c20_4) ?_
                refine g_aload_n (i := 0) C dX1_work_66 rfl rfl ?_
                refine g_get C dX1_work_67 fl_X1_16 0 rfl rfl ?_
                refine g_iload C dX1_work_70 rfl ?_
                refine g_lald C dX1_work_72 3 rfl (isReg_in c48_6) ?_
                refine g_lmul C dX1_work_73 ?_
                refine g_callV (av := [.int s, .long ((S.2.2.2.2.1 t.toNatClampNeg) * (S.2.2.2.2.1 u.toNatClampNeg))]) C dX1_work_74 ln_X1_72 mf_X1_holdProduct 0 rfl rfl (kX1_holdProduct K ad S X s ((S.2.2.2.2.1 t.toNatClampNeg) * (S.2.2.2.2.1 u.toNatClampNeg)) c4_1) rfl rfl (Nat.le_of_ble_eq_true rfl) ⟨Nat.le_of_ble_eq_true rfl, Nat.le_of_ble_eq_true rfl⟩ ⟨Nat.zero_le _, Nat.zero_le _⟩ (fun _ => ?_)
                exact hR _ _ _ _ () dX1_work_77 (by rw [cWork, c4_1, cond_true, if_neg c8_2, if_neg c13_3, c20_4, cond_true, if_neg c27_5, c48_6, cond_true, if_pos c55_7] <;> rfl) (by show _ = cW K ad (cWork S s how t u).2 X; rw [cWork, c4_1, cond_true, if_neg c8_2, if_neg c13_3, c20_4, cond_true, if_neg c27_5, c48_6, cond_true, if_pos c55_7] <;> rfl)
            · skip
              refine g_iconst (v := (-1)) C dX1_work_51 (by decide) ?_
              exact hR _ _ _ _ () dX1_work_52 (by rw [cWork, c4_1, cond_true, if_neg c8_2, if_neg c13_3, c20_4, cond_true, if_neg c27_5, c48_6, cond_false] <;> rfl) (by show _ = cW K ad (cWork S s how t u).2 X; rw [cWork, c4_1, cond_true, if_neg c8_2, if_neg c13_3, c20_4, cond_true, if_neg c27_5, c48_6, cond_false] <;> rfl)
          · skip
            refine g_aload_n (i := 0) C dX1_work_30 rfl rfl ?_
            refine g_iload_n (i := 1) C dX1_work_31 rfl rfl ?_
            refine g_aload_n (i := 0) C dX1_work_32 rfl rfl ?_
            refine g_get C dX1_work_33 fl_X1_16 0 rfl rfl ?_
            refine g_iload_n (i := 3) C dX1_work_36 rfl rfl ?_
            refine g_lald C dX1_work_37 3 rfl (isReg_in c20_4) ?_
            refine g_lneg C dX1_work_38 ?_
            refine g_callV (av := [.int s, .long (-(S.2.2.2.2.1 t.toNatClampNeg))]) C dX1_work_39 ln_X1_53 mf_X1_holdValue 0 rfl rfl (kX1_holdValue K ad S X s (-(S.2.2.2.2.1 t.toNatClampNeg)) c4_1) rfl rfl (Nat.le_of_ble_eq_true rfl) ⟨Nat.le_of_ble_eq_true rfl, Nat.le_of_ble_eq_true rfl⟩ ⟨Nat.zero_le _, Nat.zero_le _⟩ (fun _ => ?_)
            exact hR _ _ _ _ () dX1_work_42 (by rw [cWork, c4_1, cond_true, if_neg c8_2, if_neg c13_3, c20_4, cond_true, if_pos c27_5] <;> rfl) (by show _ = cW K ad (cWork S s how t u).2 X; rw [cWork, c4_1, cond_true, if_neg c8_2, if_neg c13_3, c20_4, cond_true, if_pos c27_5] <;> rfl)
        · skip
          refine g_iconst (v := (-1)) C dX1_work_23 (by decide) ?_
          exact hR _ _ _ _ () dX1_work_24 (by rw [cWork, c4_1, cond_true, if_neg c8_2, if_neg c13_3, c20_4, cond_false] <;> rfl) (by show _ = cW K ad (cWork S s how t u).2 X; rw [cWork, c4_1, cond_true, if_neg c8_2, if_neg c13_3, c20_4, cond_false] <;> rfl)

set_option maxHeartbeats 600000 in
set_option maxRecDepth 100000 in
theorem kX1_pair (K : KT) (ad : Nat → Nat) (S : CS) (X : va_W) (w : Int32) : ∀ lau : Launch, Con lau yX1_pair cX1_pair 2 (some .int) 0 0 K (cW K ad S X) (fun _ : Unit => cW K ad S X) [.ref (ad 0), .int w] (some (.int (cPair S w))) := by
  refine conI (by decide) (Nat.le_of_ble_eq_true rfl) (fun E C hR => ?_)
  show G E K 0 0 (cW K ad S X) [(0, .ref (ad 0)), (1, .int w)] 0 []
  refine g_iload_n (i := 1) C dX1_pair_0 rfl rfl ?_
  refine g_if_lt (tgt := 9) C dX1_pair_1 (by decide) (fun c1_1 => ?_) (fun c1_1 => ?_)
  · skip
    refine g_iconst (v := (-1)) C dX1_pair_9 (by decide) ?_
    exact hR _ _ _ _ () dX1_pair_10 (by rw [cPair, if_pos c1_1] <;> rfl) (rfl)
  · skip
    refine g_iload_n (i := 1) C dX1_pair_4 rfl rfl ?_
    refine g_iconst (v := 1) C dX1_pair_5 (by decide) ?_
    refine g_icmp_le (tgt := 11) C dX1_pair_6 (by decide) (fun c6_2 => ?_) (fun c6_2 => ?_)
    · skip
      refine g_iload_n (i := 1) C dX1_pair_11 rfl rfl ?_
      refine g_if_ne (tgt := 22) C dX1_pair_12 (by decide) (fun c12_3 => ?_) (fun c12_3 => ?_)
      · skip
        refine g_aload_n (i := 0) C dX1_pair_22 rfl rfl ?_
        refine g_get C dX1_pair_23 fl_X1_24 0 rfl rfl ?_
        exact hR _ _ _ _ () dX1_pair_26 (by rw [cPair, if_neg c1_1, if_pos c6_2, if_neg c12_3] <;> rfl) (rfl)
      · skip
        refine g_aload_n (i := 0) C dX1_pair_15 rfl rfl ?_
        refine g_get C dX1_pair_16 fl_X1_20 0 rfl rfl ?_
        refine g_goto (tgt := 26) C dX1_pair_19 (by decide) ?_
        exact hR _ _ _ _ () dX1_pair_26 (by rw [cPair, if_neg c1_1, if_pos c6_2, if_pos c12_3] <;> rfl) (rfl)
    · skip
      refine g_iconst (v := (-1)) C dX1_pair_9 (by decide) ?_
      exact hR _ _ _ _ () dX1_pair_10 (by rw [cPair, if_neg c1_1, if_neg c6_2] <;> rfl) (rfl)
