theorem isSm_n8 {x : Int32} (h : isSm x = true) : x.toNatClampNeg ≠ 8 := Nat.ne_of_lt (vp_lt (isSm_in h))
theorem isSm_n9 {x : Int32} (h : isSm x = true) : x.toNatClampNeg ≠ 9 := Nat.ne_of_lt (Nat.lt_trans (vp_lt (isSm_in h)) (by decide))
theorem in6 : vp_in 6 13 := by unfold vp_in; decide
theorem sltG_lt {g : Nat → Int64} : ∀ {j : Nat} {a : Int32} {k : Nat}, sltG g j a = some k → k < j
  | 0, _, _, h => by cases h
  | j + 1, a, k, h => by
    rw [sltG] at h
    by_cases h1 : g j = 0
    · rw [if_pos h1] at h; exact Nat.lt_succ_of_lt (sltG_lt h)
    · rw [if_neg h1] at h
      by_cases h2 : a = 0
      · rw [if_pos h2] at h; rw [← Option.some.inj h]; exact Nat.lt_succ_self j
      · rw [if_neg h2] at h; exact Nat.lt_succ_of_lt (sltG_lt h)
theorem sltR_in {g : Nat → Int64} {a : Int32} (h : ¬ sltR g a < 0) : vp_in (sltR g a) 13 := by
  unfold sltR at h ⊢
  cases e : sltG g 13 a with
  | none => rw [e] at h; exact absurd (by decide) h
  | some k => exact vp_in_nI (sltG_lt e) (by decide)
theorem sltR_in2 {g : Nat → Int64} {a : Int32} (h : 0 ≤ sltR g a) : vp_in (sltR g a) 13 := sltR_in (Int32.not_lt.mpr h)
abbrev gC (S : CS) (z : Int32) : Nat → Int64 := fC S z.toNatClampNeg
def cT1 (S : CS) (z e a k : Int32) : CS := sF S (uF (fC S) z.toNatClampNeg (vp_updL (gC S z) (e + 6).toNatClampNeg (facO a.toInt64 k)))
def cTerm (S : CS) (z e a k : Int32) : Int32 × CS := bif isSm z then bif isEx e then bif isFr a k then (cntG (gC (cT1 S z e a k) z) 13, cT1 S z e a k) else (-1, S) else (-1, S) else (-1, S)
def cTold (S : CS) (z i w : Int32) : Int32 := bif isSm z then (if i < 0 then -1000000001 else if w < 0 then -1000000001 else if w ≤ 2 then (if 0 ≤ sltR (gC S z) i then (if w = 0 then sltR (gC S z) i - 6 else if w = 1 then lAbo (gC S z (sltR (gC S z) i).toNatClampNeg) 20 else lBel (gC S z (sltR (gC S z) i).toNatClampNeg) 20) else -1000000004) else -1000000001) else -1000000001
def cS8 (S : CS) (g : Nat → Int64) : CS := sF S (uF (fC S) 8 g)
def cE1 (S : CS) (z : Nat) : CS := sF S (uF (fC S) z (cpyG (fC S 8) (fC S z) 13))
def cE2 (S : CS) (z : Nat) : CS := sF S (uF (fC S) z (cpyG (fC S 9) (fC S z) 13))
def sumP (S : CS) (x y : Int32) : Bool × (Nat → Int64) := bpF (gC S x) (gC S y) 13 (cpyG (fun _ => 0) (fC S 8) 13)
def sumT (S : CS) (x y : Int32) (less : Bool) : Bool × (Nat → Int64) := btF (gC S y) less 13 (cpyG (gC S x) (fC S 8) 13)
def sumE (S : CS) (z : Int32) (r : Bool × (Nat → Int64)) : Int32 × CS := bif r.1 then (cntG (cpyG (fC (cS8 S r.2) 8) (fC (cS8 S r.2) z.toNatClampNeg) 13) 13, cE1 (cS8 S r.2) z.toNatClampNeg) else (-5, cS8 S r.2)
def cSum (S : CS) (z how x y : Int32) : Int32 × CS := bif isSm z then (if how < 0 then (-1, S) else if 2 < how then (-1, S) else bif isSm x then bif isSm y then (if how = 2 then sumE S z (sumP S x y) else sumE S z (sumT S x y (decide (how = 1)))) else (-1, S) else (-1, S)) else (-1, S)
def cOrd (S : CS) (x y : Int32) : Int32 × CS := bif isSm x then bif isSm y then (bif (sumT S x y true).1 then (if 0 ≤ sltR (sumT S x y true).2 0 then (sgnO ((sumT S x y true).2 (sltR (sumT S x y true).2 0).toNatClampNeg), cS8 S (sumT S x y true).2) else (0, cS8 S (sumT S x y true).2)) else (-5, cS8 S (sumT S x y true).2)) else (-9, S) else (-9, S)
def cTk (S : CS) (z s : Int32) : Nat → Int64 := vp_updL (cpyG (fun _ => 0) (gC S z) 13) (6 : Int32).toNatClampNeg (facO (vlC S s) 23)
def cTake (S : CS) (z s : Int32) : Int32 × CS := bif isSm z then bif isReg s then (if facO (vlC S s) 23 = 1152921504606846976 then (-5, S) else (cntG (cTk S z s) 13, sF S (uF (fC S) z.toNatClampNeg (cTk S z s)))) else (-1, S) else (-1, S)
def cNear (S : CS) (s z : Int32) : Int32 × CS := bif isReg s then bif isSm z then (if sltR (gC S z) 0 ≤ 6 then cHV S s (shlL (gC S z (6 : Int32).toNatClampNeg) 3) else (-2, S)) else (-1, S) else (-1, S)
def c2 (K : KT) (ad : Nat → Nat) (S : CS) (r q : Nat → Int64) (X : va_W) : va_W := cW K ad (sF S (uF (uF (fC S) 8 r) 9 q)) X
theorem c2_9 {K : KT} {ad : Nat → Nat} {S : CS} {r q : Nat → Int64} {X : va_W} : c2 K ad S r q X = cU K ad (sF S (uF (fC S) 8 r)) 9 q X := rfl
theorem c2_8 {K : KT} {ad : Nat → Nat} {S : CS} {r q : Nat → Int64} {X : va_W} : c2 K ad S r q X = cU K ad (sF S (uF (fC S) 9 q)) 8 r X := by
  unfold c2 cU
  rw [uF_comm (by decide)]
theorem c2_S {K : KT} {ad : Nat → Nat} {S : CS} {y : Nat} {r q : Nat → Int64} {X : va_W} (h : y < 10) : (c2 K ad S r q X)[5 + y]? = some (oB (ad (5 + y)) 0 [.ref (ad (15 + y))]) := cW_S h
theorem c2_A9 {K : KT} {ad : Nat → Nat} {S : CS} {r q : Nat → Int64} {X : va_W} : (c2 K ad S r q X)[24]? = some (aJ K (ad 24) 13 q) := by rw [c2_9]; exact cU_A (z := 9) (by decide)
theorem c2_An {K : KT} {ad : Nat → Nat} {S : CS} {y : Nat} {r q : Nat → Int64} {X : va_W} (h : y < 10) (h8 : y ≠ 8) (h9 : y ≠ 9) : (c2 K ad S r q X)[15 + y]? = some (aJ K (ad (15 + y)) 13 (fC S y)) := by
  rw [c2_9, cU_An h h9]; show some (aJ K (ad (15 + y)) 13 (uF (fC S) 8 r y)) = _; rw [uF_n h8]
theorem kD_put (K : KT) (ad : Nat → Nat) (S : CS) (X : va_W) (r q : Nat → Int64) (e : Int32) (f : Int64) : ∀ lau : Launch, Con lau yX0_put cX0_put 7 (some .boolean) 4 89 K (c2 K ad S r q X) (fun _ : Unit => c2 K ad S (putF r e f).2 q X) [.ref (ad 13), .int e, .long f] (some (.int (bz (putF r e f).1))) := by
  rw [c2_8, c2_8]
  exact kX0_put K ad (sF S (uF (fC S) 9 q)) X 8 r e f (by decide)
theorem kD_pp (K : KT) (ad : Nat → Nat) (S : CS) (X : va_W) (r q : Nat → Int64) (e : Int32) (f : Int64) (y : Nat) (hy : y < 10) (h8 : y ≠ 8) (h9 : y ≠ 9) : ∀ lau : Launch, Con lau yX0_putProducts cX0_putProducts 8 (some .boolean) 5 115 K (c2 K ad S r q X) (fun _ : Unit => c2 K ad S r (ppF (fC S y) e f 13 q).2 X) [.ref (ad 14), .int e, .long f, .ref (ad (5 + y))] (some (.int (bz (ppF (fC S y) e f 13 q).1))) := by
  have h := kX0_putProducts K ad (sF S (uF (fC S) 8 r)) X 9 q e f y (by decide) hy h9
  rw [show fC (sF S (uF (fC S) 8 r)) y = fC S y from uF_n h8] at h
  exact h
theorem kD_slt (K : KT) (ad : Nat → Nat) (S : CS) (X : va_W) (r q : Nat → Int64) (a : Int32) : ∀ lau : Launch, Con lau yX0_slotOfTerm cX0_slotOfTerm 4 (some .int) 0 0 K (c2 K ad S r q X) (fun _ : Unit => c2 K ad S r q X) [.ref (ad 14), .int a] (some (.int (sltR q a))) := kX0_slotOfTerm K ad (sF S (uF (fC S) 8 r)) X 9 q a (by decide)
theorem c2_en {K : KT} {ad : Nat → Nat} {S : CS} {x : Nat} {r : Nat → Int64} {X : va_W} (h8 : x ≠ 8) : cU K ad (sF S (uF (fC S) 8 r)) 9 (cpyG (fC (sF S (uF (fC S) 8 r)) x) (fC (sF S (uF (fC S) 8 r)) 9) 13) X = c2 K ad S r (cpyG (fC S x) (fC S 9) 13) X := by
  rw [c2_9, show fC (sF S (uF (fC S) 8 r)) x = fC S x from uF_n (g := r) h8, show fC (sF S (uF (fC S) 8 r)) 9 = fC S 9 from uF_n (g := r) (show (9 : Nat) ≠ 8 by decide)]
def dOnce (h : Nat → Int64) (ds rs : Int32) (r q : Nat → Int64) : Bool × (Nat → Int64) × (Nat → Int64) := bif (putF r (rs - ds) (facQ (q rs.toNatClampNeg) (h ds.toNatClampNeg))).1 then ((ppF h (rs - ds) (-(facQ (q rs.toNatClampNeg) (h ds.toNatClampNeg))) 13 q).1, (putF r (rs - ds) (facQ (q rs.toNatClampNeg) (h ds.toNatClampNeg))).2, (ppF h (rs - ds) (-(facQ (q rs.toNatClampNeg) (h ds.toNatClampNeg))) 13 q).2) else (false, (putF r (rs - ds) (facQ (q rs.toNatClampNeg) (h ds.toNatClampNeg))).2, q)
def dvL (h : Nat → Int64) (ds : Int32) : Nat → Nat → (Nat → Int64) → (Nat → Int64) → Bool × Nat × (Nat → Int64) × (Nat → Int64)
  | 0, n, r, q => (true, n, r, q)
  | f + 1, n, r, q => if sltR q 0 < 0 then (true, n, r, q) else if -6 ≤ sltR q 0 - ds then (bif (dOnce h ds (sltR q 0) r q).1 then dvL h ds f (n + 1) (dOnce h ds (sltR q 0) r q).2.1 (dOnce h ds (sltR q 0) r q).2.2 else (false, n, (dOnce h ds (sltR q 0) r q).2.1, (dOnce h ds (sltR q 0) r q).2.2)) else (true, n, r, q)
def dvS (S : CS) (x y : Int32) (n : Nat) : Bool × Nat × (Nat → Int64) × (Nat → Int64) := dvL (gC S y) (sltR (gC S y) 0) n 0 (cpyG (fun _ => 0) (fC S 8) 13) (cpyG (gC S x) (fC S 9) 13)
def cS2 (S : CS) (r q : Nat → Int64) : CS := sF S (uF (uF (fC S) 8 r) 9 q)
def dvE (S : CS) (q r : Int32) (u : Bool × Nat × (Nat → Int64) × (Nat → Int64)) : Int32 × CS := bif u.1 then (nI u.2.1, cE2 (cE1 (cS2 S u.2.2.1 u.2.2.2) q.toNatClampNeg) r.toNatClampNeg) else (-5, cS2 S u.2.2.1 u.2.2.2)
def cDiv (S : CS) (q r x y n : Int32) : Int32 × CS := bif isSm q then bif isSm r then (if q = r then (-1, S) else bif isSm x then bif isSm y then (if n < 1 then (-1, S) else if n ≤ 20 then (if sltR (gC S y) 0 < 0 then (-2, S) else bif isP2 (gC S y (sltR (gC S y) 0).toNatClampNeg) then dvE S q r (dvS S x y n.toNatClampNeg) else (-2, S)) else (-1, S)) else (-1, S) else (-1, S)) else (-1, S) else (-1, S)
theorem rnd_k {n : Int32} (h1 : ¬ n < 1) (h2 : n ≤ 20) : ∃ k : Nat, k ≤ 20 ∧ n = nI k := by
  refine nI_of2 (M := 20) rfl ?_ h2
  intro h
  apply h1
  rw [Int32.lt_iff_toInt_lt] at h ⊢
  have e0 : (0 : Int32).toInt = 0 := rfl
  have e1 : (1 : Int32).toInt = 1 := rfl
  omega
theorem dvL_s {h : Nat → Int64} {ds : Int32} {m n : Nat} {r q : Nat → Int64} (e : n < m) : dvL h ds (m - n) n r q = (if sltR q 0 < 0 then (true, n, r, q) else if -6 ≤ sltR q 0 - ds then (bif (dOnce h ds (sltR q 0) r q).1 then dvL h ds (m - (n + 1)) (n + 1) (dOnce h ds (sltR q 0) r q).2.1 (dOnce h ds (sltR q 0) r q).2.2 else (false, n, (dOnce h ds (sltR q 0) r q).2.1, (dOnce h ds (sltR q 0) r q).2.2)) else (true, n, r, q)) := by
  rw [show m - n = (m - (n + 1)) + 1 from by omega]
  rfl
theorem dvL_0 {h : Nat → Int64} {ds : Int32} {m : Nat} {r q : Nat → Int64} : dvL h ds (m - m) m r q = (true, m, r, q) := by
  rw [Nat.sub_self]; rfl
set_option maxHeartbeats 600000 in
set_option maxRecDepth 100000 in
theorem kX1_term (K : KT) (ad : Nat → Nat) (S : CS) (X : va_W) (z : Int32) (e : Int32) (a : Int32) (k : Int32) : ∀ lau : Launch, Con lau yX1_term cX1_term 5 (some .int) 4 89 K (cW K ad S X) (fun _ : Unit => cW K ad ((cTerm S z e a k).2) X) [.ref (ad 0), .int z, .int e, .int a, .int k] (some (.int ((cTerm S z e a k).1))) := by
  refine conI (by decide) (Nat.le_of_ble_eq_true rfl) (fun E C hR => ?_)
  show G E K 0 0 (cW K ad S X) [(0, .ref (ad 0)), (1, .int z), (2, .int e), (3, .int a), (4, .int k)] 0 []
  refine g_iload_n (i := 1) C dX1_term_0 rfl rfl ?_
  refine g_callS (av := [.int z]) C dX1_term_1 ln_X1_114 mf_X1_isSum (kX1_isSum K (cW K ad S X) z) rfl rfl (Nat.le_of_ble_eq_true rfl) ⟨Nat.le_of_ble_eq_true rfl, Nat.le_of_ble_eq_true rfl⟩ ⟨Nat.zero_le _, Nat.zero_le _⟩ (fun _ => ?_)
  refine g_bz_eq (tgt := 23) C dX1_term_4 (by decide) (fun c4_1 => ?_) (fun c4_1 => ?_)
  · skip
    refine g_iconst (v := (-1)) C dX1_term_23 (by decide) ?_
    exact hR _ _ _ _ () dX1_term_24 (by rw [cTerm, c4_1, cond_false] <;> rfl) (by show _ = cW K ad (cTerm S z e a k).2 X; rw [cTerm, c4_1, cond_false] <;> first | rfl | exact cU_in.symm)
  · skip
    refine g_iload_n (i := 2) C dX1_term_7 rfl rfl ?_
    refine g_callS (av := [.int e]) C dX1_term_8 ln_X1_117 mf_X1_isExponent (kX1_isExponent K (cW K ad S X) e) rfl rfl (Nat.le_of_ble_eq_true rfl) ⟨Nat.le_of_ble_eq_true rfl, Nat.le_of_ble_eq_true rfl⟩ ⟨Nat.zero_le _, Nat.zero_le _⟩ (fun _ => ?_)
    refine g_bz_eq (tgt := 23) C dX1_term_11 (by decide) (fun c11_2 => ?_) (fun c11_2 => ?_)
    · skip
      refine g_iconst (v := (-1)) C dX1_term_23 (by decide) ?_
      exact hR _ _ _ _ () dX1_term_24 (by rw [cTerm, c4_1, cond_true, c11_2, cond_false] <;> rfl) (by show _ = cW K ad (cTerm S z e a k).2 X; rw [cTerm, c4_1, cond_true, c11_2, cond_false] <;> first | rfl | exact cU_in.symm)
    · skip
      refine g_iload_n (i := 3) C dX1_term_14 rfl rfl ?_
      refine g_iload C dX1_term_15 rfl ?_
      refine g_callS (av := [.int a, .int k]) C dX1_term_17 ln_X1_49 mf_X1_isFraction (kX1_isFraction K (cW K ad S X) a k) rfl rfl (Nat.le_of_ble_eq_true rfl) ⟨Nat.le_of_ble_eq_true rfl, Nat.le_of_ble_eq_true rfl⟩ ⟨Nat.zero_le _, Nat.zero_le _⟩ (fun _ => ?_)
      refine g_bz_ne (tgt := 25) C dX1_term_20 (by decide) (fun c20_3 => ?_) (fun c20_3 => ?_)
      · skip
        refine g_aload_n (i := 0) C dX1_term_25 rfl rfl ?_
        refine g_get C dX1_term_26 fl_X1_29 0 rfl rfl ?_
        refine g_iload_n (i := 1) C dX1_term_29 rfl rfl ?_
        refine g_aald (b := (ad (5 + z.toNatClampNeg))) C dX1_term_30 4 rfl (isSm_in c4_1) (soF_in c4_1) ?_
        refine g_getN C dX1_term_31 fl_X1_120 (5 + z.toNatClampNeg) (cW_S (isSm_z c4_1)) rfl ?_
        refine g_iload_n (i := 2) C dX1_term_34 rfl rfl ?_
        refine g_bipush (v := 6) C dX1_term_35 (by decide) ?_
        refine g_iadd C dX1_term_37 ?_
        refine g_iload_n (i := 3) C dX1_term_38 rfl rfl ?_
        refine g_i2l (v := Int32.toInt64 a) C dX1_term_39 rfl ?_
        refine g_iload C dX1_term_40 rfl ?_
        refine g_callS (av := [.long (Int32.toInt64 a), .int k]) C dX1_term_42 ln_X1_123 mf_X1_factorOf (kX1_factorOf K (cW K ad S X) (Int32.toInt64 a) k) rfl rfl (Nat.le_of_ble_eq_true rfl) ⟨Nat.le_of_ble_eq_true rfl, Nat.le_of_ble_eq_true rfl⟩ ⟨Nat.zero_le _, Nat.zero_le _⟩ (fun _ => ?_)
        refine g_last (Wd2 := cW K ad (S.1, S.2.1, S.2.2.1, S.2.2.2.1, S.2.2.2.2.1, uF S.2.2.2.2.2 z.toNatClampNeg (vp_updL (S.2.2.2.2.2 z.toNatClampNeg) (e + 6).toNatClampNeg (facO (Int32.toInt64 a) k))) X) C dX1_term_45 (15 + z.toNatClampNeg) (cW_A (isSm_z c4_1)) (isEx_in c11_2) (cW_set (isSm_z c4_1)) ?_
        refine g_aload_n (i := 0) C dX1_term_46 rfl rfl ?_
        refine g_get C dX1_term_47 fl_X1_29 0 rfl rfl ?_
        refine g_iload_n (i := 1) C dX1_term_50 rfl rfl ?_
        refine g_aald (b := (ad (5 + z.toNatClampNeg))) C dX1_term_51 4 rfl (isSm_in c4_1) (soF_in c4_1) ?_
        refine g_eqw (cU_in (z := z.toNatClampNeg)) ?_
        refine g_callVN (av := []) C dX1_term_52 ln_X1_127 mf_X0_countTerms (5 + z.toNatClampNeg) (cU_S (isSm_z c4_1)) rfl (kX0_countTerms K ad (S.1, S.2.1, S.2.2.1, S.2.2.2.1, S.2.2.2.2.1, uF S.2.2.2.2.2 z.toNatClampNeg (vp_updL (S.2.2.2.2.2 z.toNatClampNeg) (e + 6).toNatClampNeg (facO (Int32.toInt64 a) k))) X z.toNatClampNeg (fC (S.1, S.2.1, S.2.2.1, S.2.2.2.1, S.2.2.2.2.1, uF S.2.2.2.2.2 z.toNatClampNeg (vp_updL (S.2.2.2.2.2 z.toNatClampNeg) (e + 6).toNatClampNeg (facO (Int32.toInt64 a) k))) z.toNatClampNeg)  (isSm_z c4_1)  ) rfl rfl (Nat.le_of_ble_eq_true rfl) ⟨Nat.le_of_ble_eq_true rfl, Nat.le_of_ble_eq_true rfl⟩ ⟨Nat.zero_le _, Nat.zero_le _⟩ (fun _ => ?_)
        refine g_eqw (Eq.symm (cU_in (z := z.toNatClampNeg))) ?_
        exact hR _ _ _ _ () dX1_term_55 (by rw [cTerm, c4_1, cond_true, c11_2, cond_true, c20_3, cond_true] <;> rfl) (by show _ = cW K ad (cTerm S z e a k).2 X; rw [cTerm, c4_1, cond_true, c11_2, cond_true, c20_3, cond_true] <;> first | rfl | exact cU_in.symm)
      · skip
        refine g_iconst (v := (-1)) C dX1_term_23 (by decide) ?_
        exact hR _ _ _ _ () dX1_term_24 (by rw [cTerm, c4_1, cond_true, c11_2, cond_true, c20_3, cond_false] <;> rfl) (by show _ = cW K ad (cTerm S z e a k).2 X; rw [cTerm, c4_1, cond_true, c11_2, cond_true, c20_3, cond_false] <;> first | rfl | exact cU_in.symm)

set_option maxHeartbeats 600000 in
set_option maxRecDepth 100000 in
theorem kX1_told (K : KT) (ad : Nat → Nat) (S : CS) (X : va_W) (z : Int32) (i : Int32) (w : Int32) : ∀ lau : Launch, Con lau yX1_told cX1_told 7 (some .int) 4 86 K (cW K ad S X) (fun _ : Unit => cW K ad S X) [.ref (ad 0), .int z, .int i, .int w] (some (.int (cTold S z i w))) := by
  refine conI (by decide) (Nat.le_of_ble_eq_true rfl) (fun E C hR => ?_)
  show G E K 0 0 (cW K ad S X) [(0, .ref (ad 0)), (1, .int z), (2, .int i), (3, .int w)] 0 []
  refine g_iload_n (i := 1) C dX1_told_0 rfl rfl ?_
  refine g_callS (av := [.int z]) C dX1_told_1 ln_X1_114 mf_X1_isSum (kX1_isSum K (cW K ad S X) z) rfl rfl (Nat.le_of_ble_eq_true rfl) ⟨Nat.le_of_ble_eq_true rfl, Nat.le_of_ble_eq_true rfl⟩ ⟨Nat.zero_le _, Nat.zero_le _⟩ (fun _ => ?_)
  refine g_bz_eq (tgt := 20) C dX1_told_4 (by decide) (fun c4_1 => ?_) (fun c4_1 => ?_)
  · skip
    refine g_ldc (v := (-1000000001)) C dX1_told_20 kc_X1_131 ?_
    exact hR _ _ _ _ () dX1_told_22 (by rw [cTold, c4_1, cond_false] <;> rfl) (by first | rfl | exact cU_in.symm)
  · skip
    refine g_iload_n (i := 2) C dX1_told_7 rfl rfl ?_
    refine g_if_lt (tgt := 20) C dX1_told_8 (by decide) (fun c8_2 => ?_) (fun c8_2 => ?_)
    · skip
      refine g_ldc (v := (-1000000001)) C dX1_told_20 kc_X1_131 ?_
      exact hR _ _ _ _ () dX1_told_22 (by rw [cTold, c4_1, cond_true, if_pos c8_2] <;> rfl) (by first | rfl | exact cU_in.symm)
    · skip
      refine g_iload_n (i := 3) C dX1_told_11 rfl rfl ?_
      refine g_if_lt (tgt := 20) C dX1_told_12 (by decide) (fun c12_3 => ?_) (fun c12_3 => ?_)
      · skip
        refine g_ldc (v := (-1000000001)) C dX1_told_20 kc_X1_131 ?_
        exact hR _ _ _ _ () dX1_told_22 (by rw [cTold, c4_1, cond_true, if_neg c8_2, if_pos c12_3] <;> rfl) (by first | rfl | exact cU_in.symm)
      · skip
        refine g_iload_n (i := 3) C dX1_told_15 rfl rfl ?_
        refine g_iconst (v := 2) C dX1_told_16 (by decide) ?_
        refine g_icmp_le (tgt := 23) C dX1_told_17 (by decide) (fun c17_4 => ?_) (fun c17_4 => ?_)
        · skip
          refine g_aload_n (i := 0) C dX1_told_23 rfl rfl ?_
          refine g_get C dX1_told_24 fl_X1_29 0 rfl rfl ?_
          refine g_iload_n (i := 1) C dX1_told_27 rfl rfl ?_
          refine g_aald (b := (ad (5 + z.toNatClampNeg))) C dX1_told_28 4 rfl (isSm_in c4_1) (soF_in c4_1) ?_
          refine g_iload_n (i := 2) C dX1_told_29 rfl rfl ?_
          refine g_eqw (cU_in (z := z.toNatClampNeg)) ?_
          refine g_callVN (av := [.int i]) C dX1_told_30 ln_X1_132 mf_X0_slotOfTerm (5 + z.toNatClampNeg) (cU_S (isSm_z c4_1)) rfl (kX0_slotOfTerm K ad S X z.toNatClampNeg (fC S z.toNatClampNeg) i (isSm_z c4_1)  ) rfl rfl (Nat.le_of_ble_eq_true rfl) ⟨Nat.le_of_ble_eq_true rfl, Nat.le_of_ble_eq_true rfl⟩ ⟨Nat.zero_le _, Nat.zero_le _⟩ (fun _ => ?_)
          refine g_eqw (Eq.symm (cU_in (z := z.toNatClampNeg))) ?_
          refine g_istore (lv2 := [(0, .ref (ad 0)), (1, .int z), (2, .int i), (3, .int w), (4, .int (sltR (fC S z.toNatClampNeg) i))]) C dX1_told_33 (by decide) rfl ?_
          refine g_iload C dX1_told_35 rfl ?_
          refine g_if_ge (tgt := 43) C dX1_told_37 (by decide) (fun c37_5 => ?_) (fun c37_5 => ?_)
          · skip
            refine g_iload_n (i := 3) C dX1_told_43 rfl rfl ?_
            refine g_if_ne (tgt := 53) C dX1_told_44 (by decide) (fun c44_6 => ?_) (fun c44_6 => ?_)
            · skip
              refine g_aload_n (i := 0) C dX1_told_53 rfl rfl ?_
              refine g_get C dX1_told_54 fl_X1_29 0 rfl rfl ?_
              refine g_iload_n (i := 1) C dX1_told_57 rfl rfl ?_
              refine g_aald (b := (ad (5 + z.toNatClampNeg))) C dX1_told_58 4 rfl (isSm_in c4_1) (soF_in c4_1) ?_
              refine g_getN C dX1_told_59 fl_X1_120 (5 + z.toNatClampNeg) (cW_S (isSm_z c4_1)) rfl ?_
              refine g_iload C dX1_told_62 rfl ?_
              refine g_lald C dX1_told_64 (15 + z.toNatClampNeg) (cW_A (isSm_z c4_1)) (sltR_in2 c37_5) ?_
              refine g_lstore (lv2 := [(0, .ref (ad 0)), (1, .int z), (2, .int i), (3, .int w), (4, .int (sltR (fC S z.toNatClampNeg) i)), (5, .long ((S.2.2.2.2.2 z.toNatClampNeg) (sltR (fC S z.toNatClampNeg) i).toNatClampNeg))]) C dX1_told_65 (by decide) rfl ?_
              refine g_iload_n (i := 3) C dX1_told_67 rfl rfl ?_
              refine g_iconst (v := 1) C dX1_told_68 (by decide) ?_
              refine g_icmp_ne (tgt := 82) C dX1_told_69 (by decide) (fun c69_7 => ?_) (fun c69_7 => ?_)
              · skip
                refine g_lload C dX1_told_82 rfl ?_
                refine g_bipush (v := 20) C dX1_told_84 (by decide) ?_
                refine g_callS (av := [.long ((S.2.2.2.2.2 z.toNatClampNeg) (sltR (fC S z.toNatClampNeg) i).toNatClampNeg), .int 20]) C dX1_told_86 ln_X1_65 mf_X1_leastBelow (kX1_leastBelow K (cW K ad S X) ((S.2.2.2.2.2 z.toNatClampNeg) (sltR (fC S z.toNatClampNeg) i).toNatClampNeg) 20) rfl rfl (Nat.le_of_ble_eq_true rfl) ⟨Nat.le_of_ble_eq_true rfl, Nat.le_of_ble_eq_true rfl⟩ ⟨Nat.zero_le _, Nat.zero_le _⟩ (fun _ => ?_)
                exact hR _ _ _ _ () dX1_told_89 (by rw [cTold, c4_1, cond_true, if_neg c8_2, if_neg c12_3, if_pos c17_4, if_pos c37_5, if_neg c44_6, if_neg c69_7] <;> rfl) (by first | rfl | exact cU_in.symm)
              · skip
                refine g_lload C dX1_told_72 rfl ?_
                refine g_bipush (v := 20) C dX1_told_74 (by decide) ?_
                refine g_callS (av := [.long ((S.2.2.2.2.2 z.toNatClampNeg) (sltR (fC S z.toNatClampNeg) i).toNatClampNeg), .int 20]) C dX1_told_76 ln_X1_61 mf_X1_leastAbove (kX1_leastAbove K (cW K ad S X) ((S.2.2.2.2.2 z.toNatClampNeg) (sltR (fC S z.toNatClampNeg) i).toNatClampNeg) 20) rfl rfl (Nat.le_of_ble_eq_true rfl) ⟨Nat.le_of_ble_eq_true rfl, Nat.le_of_ble_eq_true rfl⟩ ⟨Nat.zero_le _, Nat.zero_le _⟩ (fun _ => ?_)
                refine g_goto (tgt := 89) C dX1_told_79 (by decide) ?_
                exact hR _ _ _ _ () dX1_told_89 (by rw [cTold, c4_1, cond_true, if_neg c8_2, if_neg c12_3, if_pos c17_4, if_pos c37_5, if_neg c44_6, if_pos c69_7] <;> rfl) (by first | rfl | exact cU_in.symm)
            · skip
              refine g_iload C dX1_told_47 rfl ?_
              refine g_bipush (v := 6) C dX1_told_49 (by decide) ?_
              refine g_isub C dX1_told_51 ?_
              exact hR _ _ _ _ () dX1_told_52 (by rw [cTold, c4_1, cond_true, if_neg c8_2, if_neg c12_3, if_pos c17_4, if_pos c37_5, if_pos c44_6] <;> rfl) (by first | rfl | exact cU_in.symm)
          · skip
            refine g_ldc (v := (-1000000004)) C dX1_told_40 kc_X1_135 ?_
            exact hR _ _ _ _ () dX1_told_42 (by rw [cTold, c4_1, cond_true, if_neg c8_2, if_neg c12_3, if_pos c17_4, if_neg c37_5] <;> rfl) (by first | rfl | exact cU_in.symm)
        · skip
          refine g_ldc (v := (-1000000001)) C dX1_told_20 kc_X1_131 ?_
          exact hR _ _ _ _ () dX1_told_22 (by rw [cTold, c4_1, cond_true, if_neg c8_2, if_neg c12_3, if_neg c17_4] <;> rfl) (by first | rfl | exact cU_in.symm)

set_option maxHeartbeats 600000 in
set_option maxRecDepth 100000 in
theorem kX1_sum (K : KT) (ad : Nat → Nat) (S : CS) (X : va_W) (z : Int32) (how : Int32) (x : Int32) (y : Int32) : ∀ lau : Launch, Con lau yX1_sum cX1_sum 6 (some .int) 7 167 K (cW K ad S X) (fun _ : Unit => cW K ad ((cSum S z how x y).2) X) [.ref (ad 0), .int z, .int how, .int x, .int y] (some (.int ((cSum S z how x y).1))) := by
  refine conI (by decide) (Nat.le_of_ble_eq_true rfl) (fun E C hR => ?_)
  show G E K 0 0 (cW K ad S X) [(0, .ref (ad 0)), (1, .int z), (2, .int how), (3, .int x), (4, .int y)] 0 []
  refine g_iload_n (i := 1) C dX1_sum_0 rfl rfl ?_
  refine g_callS (av := [.int z]) C dX1_sum_1 ln_X1_114 mf_X1_isSum (kX1_isSum K (cW K ad S X) z) rfl rfl (Nat.le_of_ble_eq_true rfl) ⟨Nat.le_of_ble_eq_true rfl, Nat.le_of_ble_eq_true rfl⟩ ⟨Nat.zero_le _, Nat.zero_le _⟩ (fun _ => ?_)
  refine g_bz_eq (tgt := 31) C dX1_sum_4 (by decide) (fun c4_1 => ?_) (fun c4_1 => ?_)
  · skip
    refine g_iconst (v := (-1)) C dX1_sum_31 (by decide) ?_
    exact hR _ _ _ _ () dX1_sum_32 (by rw [cSum, c4_1, cond_false] <;> rfl) (by show _ = cW K ad (cSum S z how x y).2 X; rw [cSum, c4_1, cond_false] <;> rfl)
  · skip
    refine g_iload_n (i := 2) C dX1_sum_7 rfl rfl ?_
    refine g_if_lt (tgt := 31) C dX1_sum_8 (by decide) (fun c8_2 => ?_) (fun c8_2 => ?_)
    · skip
      refine g_iconst (v := (-1)) C dX1_sum_31 (by decide) ?_
      exact hR _ _ _ _ () dX1_sum_32 (by rw [cSum, c4_1, cond_true, if_pos c8_2] <;> rfl) (by show _ = cW K ad (cSum S z how x y).2 X; rw [cSum, c4_1, cond_true, if_pos c8_2] <;> rfl)
    · skip
      refine g_iload_n (i := 2) C dX1_sum_11 rfl rfl ?_
      refine g_iconst (v := 2) C dX1_sum_12 (by decide) ?_
      refine g_icmp_gt (tgt := 31) C dX1_sum_13 (by decide) (fun c13_3 => ?_) (fun c13_3 => ?_)
      · skip
        refine g_iconst (v := (-1)) C dX1_sum_31 (by decide) ?_
        exact hR _ _ _ _ () dX1_sum_32 (by rw [cSum, c4_1, cond_true, if_neg c8_2, if_pos c13_3] <;> rfl) (by show _ = cW K ad (cSum S z how x y).2 X; rw [cSum, c4_1, cond_true, if_neg c8_2, if_pos c13_3] <;> rfl)
      · skip
        refine g_iload_n (i := 3) C dX1_sum_16 rfl rfl ?_
        refine g_callS (av := [.int x]) C dX1_sum_17 ln_X1_114 mf_X1_isSum (kX1_isSum K (cW K ad S X) x) rfl rfl (Nat.le_of_ble_eq_true rfl) ⟨Nat.le_of_ble_eq_true rfl, Nat.le_of_ble_eq_true rfl⟩ ⟨Nat.zero_le _, Nat.zero_le _⟩ (fun _ => ?_)
        refine g_bz_eq (tgt := 31) C dX1_sum_20 (by decide) (fun c20_4 => ?_) (fun c20_4 => ?_)
        · skip
          refine g_iconst (v := (-1)) C dX1_sum_31 (by decide) ?_
          exact hR _ _ _ _ () dX1_sum_32 (by rw [cSum, c4_1, cond_true, if_neg c8_2, if_neg c13_3, c20_4, cond_false] <;> rfl) (by show _ = cW K ad (cSum S z how x y).2 X; rw [cSum, c4_1, cond_true, if_neg c8_2, if_neg c13_3, c20_4, cond_false] <;> rfl)
        · skip
          refine g_iload C dX1_sum_23 rfl ?_
          refine g_callS (av := [.int y]) C dX1_sum_25 ln_X1_114 mf_X1_isSum (kX1_isSum K (cW K ad S X) y) rfl rfl (Nat.le_of_ble_eq_true rfl) ⟨Nat.le_of_ble_eq_true rfl, Nat.le_of_ble_eq_true rfl⟩ ⟨Nat.zero_le _, Nat.zero_le _⟩ (fun _ => ?_)
          refine g_bz_ne (tgt := 33) C dX1_sum_28 (by decide) (fun c28_5 => ?_) (fun c28_5 => ?_)
          · skip
            refine g_iload_n (i := 2) C dX1_sum_33 rfl rfl ?_
            refine g_iconst (v := 2) C dX1_sum_34 (by decide) ?_
            refine g_icmp_ne (tgt := 61) C dX1_sum_35 (by decide) (fun c35_6 => ?_) (fun c35_6 => ?_)
            · skip
              refine g_aload_n (i := 0) C dX1_sum_61 rfl rfl ?_
              refine g_get C dX1_sum_62 fl_X1_34 0 rfl rfl ?_
              refine g_aload_n (i := 0) C dX1_sum_65 rfl rfl ?_
              refine g_get C dX1_sum_66 fl_X1_29 0 rfl rfl ?_
              refine g_iload_n (i := 3) C dX1_sum_69 rfl rfl ?_
              refine g_aald (b := (ad (5 + x.toNatClampNeg))) C dX1_sum_70 4 rfl (isSm_in c20_4) (soF_in c20_4) ?_
              refine g_aload_n (i := 0) C dX1_sum_71 rfl rfl ?_
              refine g_get C dX1_sum_72 fl_X1_29 0 rfl rfl ?_
              refine g_iload C dX1_sum_75 rfl ?_
              refine g_aald (b := (ad (5 + y.toNatClampNeg))) C dX1_sum_77 4 rfl (isSm_in c28_5) (soF_in c28_5) ?_
              refine g_iload_n (i := 2) C dX1_sum_78 rfl rfl ?_
              refine g_iconst (v := 1) C dX1_sum_79 (by decide) ?_
              refine g_dia_icmp_ne (tgt := 87) C dX1_sum_80 dX1_sum_83 dX1_sum_84 dX1_sum_87 (by decide) (by decide) trivial ?_
              refine g_eqw (cU_in (z := 8)) ?_
              refine g_callVN (av := [.ref (ad (5 + x.toNatClampNeg)), .ref (ad (5 + y.toNatClampNeg)), .int (bz (decide (how = 1)))]) C dX1_sum_88 ln_X1_140 mf_X0_becomeTogether (5 + 8) (cU_S (by decide)) rfl (kX0_becomeTogether K ad S X 8 (fC S 8) x.toNatClampNeg y.toNatClampNeg (decide (how = 1)) (by decide) (isSm_z c20_4) (isSm_n8 c20_4) (isSm_z c28_5) (isSm_n8 c28_5) ) rfl rfl (Nat.le_of_ble_eq_true rfl) ⟨Nat.le_of_ble_eq_true rfl, Nat.le_of_ble_eq_true rfl⟩ ⟨Nat.zero_le _, Nat.zero_le _⟩ (fun _ => ?_)
              refine g_istore (lv2 := [(0, .ref (ad 0)), (1, .int z), (2, .int how), (3, .int x), (4, .int y), (5, .int (bz (btF (fC S y.toNatClampNeg) (decide (how = 1)) 13 (cpyG (fC S x.toNatClampNeg) (fC S 8) 13)).1))]) C dX1_sum_91 (by decide) rfl ?_
              refine g_iload C dX1_sum_93 rfl ?_
              refine g_bz_ne (tgt := 101) C dX1_sum_95 (by decide) (fun c95_7 => ?_) (fun c95_7 => ?_)
              · skip
                refine g_aload_n (i := 0) C dX1_sum_101 rfl rfl ?_
                refine g_get C dX1_sum_102 fl_X1_29 0 rfl rfl ?_
                refine g_iload_n (i := 1) C dX1_sum_105 rfl rfl ?_
                refine g_aald (b := (ad (5 + z.toNatClampNeg))) C dX1_sum_106 4 rfl (isSm_in c4_1) (soF_in c4_1) ?_
                refine g_aload_n (i := 0) C dX1_sum_107 rfl rfl ?_
                refine g_get C dX1_sum_108 fl_X1_34 0 rfl rfl ?_
                refine g_eqw (cU_in (z := z.toNatClampNeg)) ?_
                refine g_callVN (av := [.ref (ad 13)]) C dX1_sum_111 ln_X1_144 mf_X0_become (5 + z.toNatClampNeg) (cU_S (isSm_z c4_1)) rfl (kX0_become K ad (sF S (uF (fC S) 8 ((btF (fC S y.toNatClampNeg) (decide (how = 1)) 13 (cpyG (fC S x.toNatClampNeg) (fC S 8) 13)).2))) X z.toNatClampNeg (fC (sF S (uF (fC S) 8 ((btF (fC S y.toNatClampNeg) (decide (how = 1)) 13 (cpyG (fC S x.toNatClampNeg) (fC S 8) 13)).2))) z.toNatClampNeg) 8 (isSm_z c4_1) (by decide) (Ne.symm (isSm_n8 c4_1)) ) rfl rfl (Nat.le_of_ble_eq_true rfl) ⟨Nat.le_of_ble_eq_true rfl, Nat.le_of_ble_eq_true rfl⟩ ⟨Nat.zero_le _, Nat.zero_le _⟩ (fun _ => ?_)
                refine g_aload_n (i := 0) C dX1_sum_114 rfl rfl ?_
                refine g_get C dX1_sum_115 fl_X1_29 0 rfl rfl ?_
                refine g_iload_n (i := 1) C dX1_sum_118 rfl rfl ?_
                refine g_aald (b := (ad (5 + z.toNatClampNeg))) C dX1_sum_119 4 rfl (isSm_in c4_1) (soF_in c4_1) ?_
                refine g_callVN (av := []) C dX1_sum_120 ln_X1_127 mf_X0_countTerms (5 + z.toNatClampNeg) (cU_S (isSm_z c4_1)) rfl (kX0_countTerms K ad (sF S (uF (fC S) 8 ((btF (fC S y.toNatClampNeg) (decide (how = 1)) 13 (cpyG (fC S x.toNatClampNeg) (fC S 8) 13)).2))) X z.toNatClampNeg (cpyG (fC (sF S (uF (fC S) 8 ((btF (fC S y.toNatClampNeg) (decide (how = 1)) 13 (cpyG (fC S x.toNatClampNeg) (fC S 8) 13)).2))) 8) (fC (sF S (uF (fC S) 8 ((btF (fC S y.toNatClampNeg) (decide (how = 1)) 13 (cpyG (fC S x.toNatClampNeg) (fC S 8) 13)).2))) z.toNatClampNeg) 13)  (isSm_z c4_1)  ) rfl rfl (Nat.le_of_ble_eq_true rfl) ⟨Nat.le_of_ble_eq_true rfl, Nat.le_of_ble_eq_true rfl⟩ ⟨Nat.zero_le _, Nat.zero_le _⟩ (fun _ => ?_)
                exact hR _ _ _ _ () dX1_sum_123 (by rw [cSum, c4_1, cond_true, if_neg c8_2, if_neg c13_3, c20_4, cond_true, c28_5, cond_true, if_neg c35_6, sumE, show (sumT S x y (decide (how = 1))).1 = true from c95_7, cond_true] <;> rfl) (by show _ = cW K ad (cSum S z how x y).2 X; rw [cSum, c4_1, cond_true, if_neg c8_2, if_neg c13_3, c20_4, cond_true, c28_5, cond_true, if_neg c35_6, sumE, show (sumT S x y (decide (how = 1))).1 = true from c95_7, cond_true] <;> rfl)
              · skip
                refine g_bipush (v := (-5)) C dX1_sum_98 (by decide) ?_
                exact hR _ _ _ _ () dX1_sum_100 (by rw [cSum, c4_1, cond_true, if_neg c8_2, if_neg c13_3, c20_4, cond_true, c28_5, cond_true, if_neg c35_6, sumE, show (sumT S x y (decide (how = 1))).1 = false from c95_7, cond_false] <;> rfl) (by show _ = cW K ad (cSum S z how x y).2 X; rw [cSum, c4_1, cond_true, if_neg c8_2, if_neg c13_3, c20_4, cond_true, c28_5, cond_true, if_neg c35_6, sumE, show (sumT S x y (decide (how = 1))).1 = false from c95_7, cond_false] <;> rfl)
            · skip
              refine g_aload_n (i := 0) C dX1_sum_38 rfl rfl ?_
              refine g_get C dX1_sum_39 fl_X1_34 0 rfl rfl ?_
              refine g_aload_n (i := 0) C dX1_sum_42 rfl rfl ?_
              refine g_get C dX1_sum_43 fl_X1_29 0 rfl rfl ?_
              refine g_iload_n (i := 3) C dX1_sum_46 rfl rfl ?_
              refine g_aald (b := (ad (5 + x.toNatClampNeg))) C dX1_sum_47 4 rfl (isSm_in c20_4) (soF_in c20_4) ?_
              refine g_aload_n (i := 0) C dX1_sum_48 rfl rfl ?_
              refine g_get C dX1_sum_49 fl_X1_29 0 rfl rfl ?_
              refine g_iload C dX1_sum_52 rfl ?_
              refine g_aald (b := (ad (5 + y.toNatClampNeg))) C dX1_sum_54 4 rfl (isSm_in c28_5) (soF_in c28_5) ?_
              refine g_eqw (cU_in (z := 8)) ?_
              refine g_callVN (av := [.ref (ad (5 + x.toNatClampNeg)), .ref (ad (5 + y.toNatClampNeg))]) C dX1_sum_55 ln_X1_136 mf_X0_becomeProduct (5 + 8) (cU_S (by decide)) rfl (kX0_becomeProduct K ad S X 8 (fC S 8) x.toNatClampNeg y.toNatClampNeg (by decide) (isSm_z c20_4) (isSm_n8 c20_4) (isSm_z c28_5) (isSm_n8 c28_5) ) rfl rfl (Nat.le_of_ble_eq_true rfl) ⟨Nat.le_of_ble_eq_true rfl, Nat.le_of_ble_eq_true rfl⟩ ⟨Nat.zero_le _, Nat.zero_le _⟩ (fun _ => ?_)
              refine g_goto (tgt := 91) C dX1_sum_58 (by decide) ?_
              refine g_istore (lv2 := [(0, .ref (ad 0)), (1, .int z), (2, .int how), (3, .int x), (4, .int y), (5, .int (bz (bpF (fC S x.toNatClampNeg) (fC S y.toNatClampNeg) 13 (cpyG (fun _ => 0) (fC S 8) 13)).1))]) C dX1_sum_91 (by decide) rfl ?_
              refine g_iload C dX1_sum_93 rfl ?_
              refine g_bz_ne (tgt := 101) C dX1_sum_95 (by decide) (fun c95_8 => ?_) (fun c95_8 => ?_)
              · skip
                refine g_aload_n (i := 0) C dX1_sum_101 rfl rfl ?_
                refine g_get C dX1_sum_102 fl_X1_29 0 rfl rfl ?_
                refine g_iload_n (i := 1) C dX1_sum_105 rfl rfl ?_
                refine g_aald (b := (ad (5 + z.toNatClampNeg))) C dX1_sum_106 4 rfl (isSm_in c4_1) (soF_in c4_1) ?_
                refine g_aload_n (i := 0) C dX1_sum_107 rfl rfl ?_
                refine g_get C dX1_sum_108 fl_X1_34 0 rfl rfl ?_
                refine g_eqw (cU_in (z := z.toNatClampNeg)) ?_
                refine g_callVN (av := [.ref (ad 13)]) C dX1_sum_111 ln_X1_144 mf_X0_become (5 + z.toNatClampNeg) (cU_S (isSm_z c4_1)) rfl (kX0_become K ad (sF S (uF (fC S) 8 ((bpF (fC S x.toNatClampNeg) (fC S y.toNatClampNeg) 13 (cpyG (fun _ => 0) (fC S 8) 13)).2))) X z.toNatClampNeg (fC (sF S (uF (fC S) 8 ((bpF (fC S x.toNatClampNeg) (fC S y.toNatClampNeg) 13 (cpyG (fun _ => 0) (fC S 8) 13)).2))) z.toNatClampNeg) 8 (isSm_z c4_1) (by decide) (Ne.symm (isSm_n8 c4_1)) ) rfl rfl (Nat.le_of_ble_eq_true rfl) ⟨Nat.le_of_ble_eq_true rfl, Nat.le_of_ble_eq_true rfl⟩ ⟨Nat.zero_le _, Nat.zero_le _⟩ (fun _ => ?_)
                refine g_aload_n (i := 0) C dX1_sum_114 rfl rfl ?_
                refine g_get C dX1_sum_115 fl_X1_29 0 rfl rfl ?_
                refine g_iload_n (i := 1) C dX1_sum_118 rfl rfl ?_
                refine g_aald (b := (ad (5 + z.toNatClampNeg))) C dX1_sum_119 4 rfl (isSm_in c4_1) (soF_in c4_1) ?_
                refine g_callVN (av := []) C dX1_sum_120 ln_X1_127 mf_X0_countTerms (5 + z.toNatClampNeg) (cU_S (isSm_z c4_1)) rfl (kX0_countTerms K ad (sF S (uF (fC S) 8 ((bpF (fC S x.toNatClampNeg) (fC S y.toNatClampNeg) 13 (cpyG (fun _ => 0) (fC S 8) 13)).2))) X z.toNatClampNeg (cpyG (fC (sF S (uF (fC S) 8 ((bpF (fC S x.toNatClampNeg) (fC S y.toNatClampNeg) 13 (cpyG (fun _ => 0) (fC S 8) 13)).2))) 8) (fC (sF S (uF (fC S) 8 ((bpF (fC S x.toNatClampNeg) (fC S y.toNatClampNeg) 13 (cpyG (fun _ => 0) (fC S 8) 13)).2))) z.toNatClampNeg) 13)  (isSm_z c4_1)  ) rfl rfl (Nat.le_of_ble_eq_true rfl) ⟨Nat.le_of_ble_eq_true rfl, Nat.le_of_ble_eq_true rfl⟩ ⟨Nat.zero_le _, Nat.zero_le _⟩ (fun _ => ?_)
                exact hR _ _ _ _ () dX1_sum_123 (by rw [cSum, c4_1, cond_true, if_neg c8_2, if_neg c13_3, c20_4, cond_true, c28_5, cond_true, if_pos c35_6, sumE, show (sumP S x y).1 = true from c95_8, cond_true] <;> rfl) (by show _ = cW K ad (cSum S z how x y).2 X; rw [cSum, c4_1, cond_true, if_neg c8_2, if_neg c13_3, c20_4, cond_true, c28_5, cond_true, if_pos c35_6, sumE, show (sumP S x y).1 = true from c95_8, cond_true] <;> rfl)
              · skip
                refine g_bipush (v := (-5)) C dX1_sum_98 (by decide) ?_
                exact hR _ _ _ _ () dX1_sum_100 (by rw [cSum, c4_1, cond_true, if_neg c8_2, if_neg c13_3, c20_4, cond_true, c28_5, cond_true, if_pos c35_6, sumE, show (sumP S x y).1 = false from c95_8, cond_false] <;> rfl) (by show _ = cW K ad (cSum S z how x y).2 X; rw [cSum, c4_1, cond_true, if_neg c8_2, if_neg c13_3, c20_4, cond_true, c28_5, cond_true, if_pos c35_6, sumE, show (sumP S x y).1 = false from c95_8, cond_false] <;> rfl)
          · skip
            refine g_iconst (v := (-1)) C dX1_sum_31 (by decide) ?_
            exact hR _ _ _ _ () dX1_sum_32 (by rw [cSum, c4_1, cond_true, if_neg c8_2, if_neg c13_3, c20_4, cond_true, c28_5, cond_false] <;> rfl) (by show _ = cW K ad (cSum S z how x y).2 X; rw [cSum, c4_1, cond_true, if_neg c8_2, if_neg c13_3, c20_4, cond_true, c28_5, cond_false] <;> rfl)

set_option maxHeartbeats 600000 in
set_option maxRecDepth 100000 in
theorem kX1_order (K : KT) (ad : Nat → Nat) (S : CS) (X : va_W) (x : Int32) (y : Int32) : ∀ lau : Launch, Con lau yX1_order cX1_order 4 (some .int) 6 141 K (cW K ad S X) (fun _ : Unit => cW K ad ((cOrd S x y).2) X) [.ref (ad 0), .int x, .int y] (some (.int ((cOrd S x y).1))) := by
  refine conI (by decide) (Nat.le_of_ble_eq_true rfl) (fun E C hR => ?_)
  show G E K 0 0 (cW K ad S X) [(0, .ref (ad 0)), (1, .int x), (2, .int y)] 0 []
  refine g_iload_n (i := 1) C dX1_order_0 rfl rfl ?_
  refine g_callS (av := [.int x]) C dX1_order_1 ln_X1_114 mf_X1_isSum (kX1_isSum K (cW K ad S X) x) rfl rfl (Nat.le_of_ble_eq_true rfl) ⟨Nat.le_of_ble_eq_true rfl, Nat.le_of_ble_eq_true rfl⟩ ⟨Nat.zero_le _, Nat.zero_le _⟩ (fun _ => ?_)
  refine g_bz_eq (tgt := 14) C dX1_order_4 (by decide) (fun c4_1 => ?_) (fun c4_1 => ?_)
  · skip
    refine g_bipush (v := (-9)) C dX1_order_14 (by decide) ?_
    exact hR _ _ _ _ () dX1_order_16 (by rw [cOrd, c4_1, cond_false] <;> rfl) (by show _ = cW K ad (cOrd S x y).2 X; rw [cOrd, c4_1, cond_false] <;> rfl)
  · skip
    refine g_iload_n (i := 2) C dX1_order_7 rfl rfl ?_
    refine g_callS (av := [.int y]) C dX1_order_8 ln_X1_114 mf_X1_isSum (kX1_isSum K (cW K ad S X) y) rfl rfl (Nat.le_of_ble_eq_true rfl) ⟨Nat.le_of_ble_eq_true rfl, Nat.le_of_ble_eq_true rfl⟩ ⟨Nat.zero_le _, Nat.zero_le _⟩ (fun _ => ?_)
    refine g_bz_ne (tgt := 17) C dX1_order_11 (by decide) (fun c11_2 => ?_) (fun c11_2 => ?_)
    · skip
      refine g_aload_n (i := 0) C dX1_order_17 rfl rfl ?_
      refine g_get C dX1_order_18 fl_X1_34 0 rfl rfl ?_
      refine g_aload_n (i := 0) C dX1_order_21 rfl rfl ?_
      refine g_get C dX1_order_22 fl_X1_29 0 rfl rfl ?_
      refine g_iload_n (i := 1) C dX1_order_25 rfl rfl ?_
      refine g_aald (b := (ad (5 + x.toNatClampNeg))) C dX1_order_26 4 rfl (isSm_in c4_1) (soF_in c4_1) ?_
      refine g_aload_n (i := 0) C dX1_order_27 rfl rfl ?_
      refine g_get C dX1_order_28 fl_X1_29 0 rfl rfl ?_
      refine g_iload_n (i := 2) C dX1_order_31 rfl rfl ?_
      refine g_aald (b := (ad (5 + y.toNatClampNeg))) C dX1_order_32 4 rfl (isSm_in c11_2) (soF_in c11_2) ?_
      refine g_iconst (v := 1) C dX1_order_33 (by decide) ?_
      refine g_eqw (cU_in (z := 8)) ?_
      refine g_callVN (av := [.ref (ad (5 + x.toNatClampNeg)), .ref (ad (5 + y.toNatClampNeg)), .int 1]) C dX1_order_34 ln_X1_140 mf_X0_becomeTogether (5 + 8) (cU_S (by decide)) rfl (kX0_becomeTogether K ad S X 8 (fC S 8) x.toNatClampNeg y.toNatClampNeg true (by decide) (isSm_z c4_1) (isSm_n8 c4_1) (isSm_z c11_2) (isSm_n8 c11_2) ) rfl rfl (Nat.le_of_ble_eq_true rfl) ⟨Nat.le_of_ble_eq_true rfl, Nat.le_of_ble_eq_true rfl⟩ ⟨Nat.zero_le _, Nat.zero_le _⟩ (fun _ => ?_)
      refine g_bz_ne (tgt := 43) C dX1_order_37 (by decide) (fun c37_3 => ?_) (fun c37_3 => ?_)
      · skip
        refine g_aload_n (i := 0) C dX1_order_43 rfl rfl ?_
        refine g_get C dX1_order_44 fl_X1_34 0 rfl rfl ?_
        refine g_iconst (v := 0) C dX1_order_47 (by decide) ?_
        refine g_callVN (av := [.int 0]) C dX1_order_48 ln_X1_132 mf_X0_slotOfTerm (5 + 8) (cU_S (by decide)) rfl (kX0_slotOfTerm K ad S X 8 ((btF (fC S y.toNatClampNeg) true 13 (cpyG (fC S x.toNatClampNeg) (fC S 8) 13)).2) 0 (by decide)  ) rfl rfl (Nat.le_of_ble_eq_true rfl) ⟨Nat.le_of_ble_eq_true rfl, Nat.le_of_ble_eq_true rfl⟩ ⟨Nat.zero_le _, Nat.zero_le _⟩ (fun _ => ?_)
        refine g_istore_n (i := 3) (lv2 := [(0, .ref (ad 0)), (1, .int x), (2, .int y), (3, .int (sltR ((btF (fC S y.toNatClampNeg) true 13 (cpyG (fC S x.toNatClampNeg) (fC S 8) 13)).2) 0))]) C dX1_order_51 rfl (by decide) rfl ?_
        refine g_iload_n (i := 3) C dX1_order_52 rfl rfl ?_
        refine g_if_ge (tgt := 60) C dX1_order_53 (by decide) (fun c53_4 => ?_) (fun c53_4 => ?_)
        · skip
          refine g_aload_n (i := 0) C dX1_order_60 rfl rfl ?_
          refine g_get C dX1_order_61 fl_X1_34 0 rfl rfl ?_
          refine g_getN C dX1_order_64 fl_X1_120 (5 + 8) (cU_S (by decide)) rfl ?_
          refine g_iload_n (i := 3) C dX1_order_67 rfl rfl ?_
          refine g_lald C dX1_order_68 (15 + 8) (cU_A (by decide)) (sltR_in2 c53_4) ?_
          refine g_callS (av := [.long (((btF (fC S y.toNatClampNeg) true 13 (cpyG (fC S x.toNatClampNeg) (fC S 8) 13)).2) (sltR ((btF (fC S y.toNatClampNeg) true 13 (cpyG (fC S x.toNatClampNeg) (fC S 8) 13)).2) 0).toNatClampNeg)]) C dX1_order_69 ln_X1_68 mf_X1_signOf (kX1_signOf K (cU K ad S 8 ((btF (fC S y.toNatClampNeg) true 13 (cpyG (fC S x.toNatClampNeg) (fC S 8) 13)).2) X) (((btF (fC S y.toNatClampNeg) true 13 (cpyG (fC S x.toNatClampNeg) (fC S 8) 13)).2) (sltR ((btF (fC S y.toNatClampNeg) true 13 (cpyG (fC S x.toNatClampNeg) (fC S 8) 13)).2) 0).toNatClampNeg)) rfl rfl (Nat.le_of_ble_eq_true rfl) ⟨Nat.le_of_ble_eq_true rfl, Nat.le_of_ble_eq_true rfl⟩ ⟨Nat.zero_le _, Nat.zero_le _⟩ (fun _ => ?_)
          exact hR _ _ _ _ () dX1_order_72 (by rw [cOrd, c4_1, cond_true, c11_2, cond_true, show (sumT S x y true).1 = true from c37_3, cond_true, if_pos (show 0 ≤ sltR (sumT S x y true).2 0 from c53_4)] <;> rfl) (by show _ = cW K ad (cOrd S x y).2 X; rw [cOrd, c4_1, cond_true, c11_2, cond_true, show (sumT S x y true).1 = true from c37_3, cond_true, if_pos (show 0 ≤ sltR (sumT S x y true).2 0 from c53_4)] <;> rfl)
        · skip
          refine g_iconst (v := 0) C dX1_order_56 (by decide) ?_
          refine g_goto (tgt := 72) C dX1_order_57 (by decide) ?_
          exact hR _ _ _ _ () dX1_order_72 (by rw [cOrd, c4_1, cond_true, c11_2, cond_true, show (sumT S x y true).1 = true from c37_3, cond_true, if_neg (show ¬ 0 ≤ sltR (sumT S x y true).2 0 from c53_4)] <;> rfl) (by show _ = cW K ad (cOrd S x y).2 X; rw [cOrd, c4_1, cond_true, c11_2, cond_true, show (sumT S x y true).1 = true from c37_3, cond_true, if_neg (show ¬ 0 ≤ sltR (sumT S x y true).2 0 from c53_4)] <;> rfl)
      · skip
        refine g_bipush (v := (-5)) C dX1_order_40 (by decide) ?_
        exact hR _ _ _ _ () dX1_order_42 (by rw [cOrd, c4_1, cond_true, c11_2, cond_true, show (sumT S x y true).1 = false from c37_3, cond_false] <;> rfl) (by show _ = cW K ad (cOrd S x y).2 X; rw [cOrd, c4_1, cond_true, c11_2, cond_true, show (sumT S x y true).1 = false from c37_3, cond_false] <;> rfl)
    · skip
      refine g_bipush (v := (-9)) C dX1_order_14 (by decide) ?_
      exact hR _ _ _ _ () dX1_order_16 (by rw [cOrd, c4_1, cond_true, c11_2, cond_false] <;> rfl) (by show _ = cW K ad (cOrd S x y).2 X; rw [cOrd, c4_1, cond_true, c11_2, cond_false] <;> rfl)

set_option maxHeartbeats 600000 in
set_option maxRecDepth 100000 in
theorem kX1_take (K : KT) (ad : Nat → Nat) (S : CS) (X : va_W) (z : Int32) (s : Int32) : ∀ lau : Launch, Con lau yX1_take cX1_take 5 (some .int) 4 89 K (cW K ad S X) (fun _ : Unit => cW K ad ((cTake S z s).2) X) [.ref (ad 0), .int z, .int s] (some (.int ((cTake S z s).1))) := by
  refine conI (by decide) (Nat.le_of_ble_eq_true rfl) (fun E C hR => ?_)
  show G E K 0 0 (cW K ad S X) [(0, .ref (ad 0)), (1, .int z), (2, .int s)] 0 []
  refine g_iload_n (i := 1) C dX1_take_0 rfl rfl ?_
  refine g_callS (av := [.int z]) C dX1_take_1 ln_X1_114 mf_X1_isSum (kX1_isSum K (cW K ad S X) z) rfl rfl (Nat.le_of_ble_eq_true rfl) ⟨Nat.le_of_ble_eq_true rfl, Nat.le_of_ble_eq_true rfl⟩ ⟨Nat.zero_le _, Nat.zero_le _⟩ (fun _ => ?_)
  refine g_bz_eq (tgt := 14) C dX1_take_4 (by decide) (fun c4_1 => ?_) (fun c4_1 => ?_)
  · skip
    refine g_iconst (v := (-1)) C dX1_take_14 (by decide) ?_
    exact hR _ _ _ _ () dX1_take_15 (by rw [cTake, c4_1, cond_false] <;> rfl) (by show _ = cW K ad (cTake S z s).2 X; rw [cTake, c4_1, cond_false] <;> rfl)
  · skip
    refine g_iload_n (i := 2) C dX1_take_7 rfl rfl ?_
    refine g_callS (av := [.int s]) C dX1_take_8 ln_X1_41 mf_X1_isRegister (kX1_isRegister K (cW K ad S X) s) rfl rfl (Nat.le_of_ble_eq_true rfl) ⟨Nat.le_of_ble_eq_true rfl, Nat.le_of_ble_eq_true rfl⟩ ⟨Nat.zero_le _, Nat.zero_le _⟩ (fun _ => ?_)
    refine g_bz_ne (tgt := 16) C dX1_take_11 (by decide) (fun c11_2 => ?_) (fun c11_2 => ?_)
    · skip
      refine g_aload_n (i := 0) C dX1_take_16 rfl rfl ?_
      refine g_get C dX1_take_17 fl_X1_16 0 rfl rfl ?_
      refine g_iload_n (i := 2) C dX1_take_20 rfl rfl ?_
      refine g_lald C dX1_take_21 3 rfl (isReg_in c11_2) ?_
      refine g_bipush (v := 23) C dX1_take_22 (by decide) ?_
      refine g_callS (av := [.long (S.2.2.2.2.1 s.toNatClampNeg), .int 23]) C dX1_take_24 ln_X1_123 mf_X1_factorOf (kX1_factorOf K (cW K ad S X) (S.2.2.2.2.1 s.toNatClampNeg) 23) rfl rfl (Nat.le_of_ble_eq_true rfl) ⟨Nat.le_of_ble_eq_true rfl, Nat.le_of_ble_eq_true rfl⟩ ⟨Nat.zero_le _, Nat.zero_le _⟩ (fun _ => ?_)
      refine g_lstore_n (i := 3) (lv2 := [(0, .ref (ad 0)), (1, .int z), (2, .int s), (3, .long (facO (S.2.2.2.2.1 s.toNatClampNeg) 23))]) C dX1_take_27 rfl (by decide) rfl ?_
      refine g_lload_n (i := 3) C dX1_take_28 rfl rfl ?_
      refine g_ldc2 (v := 1152921504606846976) C dX1_take_29 kc_X1_159 ?_
      refine g_lcmp_ne (tgt := 39) C dX1_take_32 dX1_take_33 (by decide) (fun c32_3 => ?_) (fun c32_3 => ?_)
      · skip
        refine g_aload_n (i := 0) C dX1_take_39 rfl rfl ?_
        refine g_get C dX1_take_40 fl_X1_29 0 rfl rfl ?_
        refine g_iload_n (i := 1) C dX1_take_43 rfl rfl ?_
        refine g_aald (b := (ad (5 + z.toNatClampNeg))) C dX1_take_44 4 rfl (isSm_in c4_1) (soF_in c4_1) ?_
        refine g_eqw (cU_in (z := z.toNatClampNeg)) ?_
        refine g_callVN (av := []) C dX1_take_45 ln_X1_152 mf_X0_clear (5 + z.toNatClampNeg) (cU_S (isSm_z c4_1)) rfl (kX0_clear K ad S X z.toNatClampNeg (fC S z.toNatClampNeg)  (isSm_z c4_1)  ) rfl rfl (Nat.le_of_ble_eq_true rfl) ⟨Nat.le_of_ble_eq_true rfl, Nat.le_of_ble_eq_true rfl⟩ ⟨Nat.zero_le _, Nat.zero_le _⟩ (fun _ => ?_)
        refine g_aload_n (i := 0) C dX1_take_48 rfl rfl ?_
        refine g_get C dX1_take_49 fl_X1_29 0 rfl rfl ?_
        refine g_iload_n (i := 1) C dX1_take_52 rfl rfl ?_
        refine g_aald (b := (ad (5 + z.toNatClampNeg))) C dX1_take_53 4 rfl (isSm_in c4_1) (soF_in c4_1) ?_
        refine g_getN C dX1_take_54 fl_X1_120 (5 + z.toNatClampNeg) (cU_S (isSm_z c4_1)) rfl ?_
        refine g_bipush (v := 6) C dX1_take_57 (by decide) ?_
        refine g_lload_n (i := 3) C dX1_take_59 rfl rfl ?_
        refine g_last (Wd2 := cU K ad S z.toNatClampNeg (vp_updL (cpyG (fun _ => 0) (fC S z.toNatClampNeg) 13) (6 : Int32).toNatClampNeg (facO (S.2.2.2.2.1 s.toNatClampNeg) 23)) X) C dX1_take_60 (15 + z.toNatClampNeg) (cU_A (isSm_z c4_1)) in6 (cU_set (isSm_z c4_1)) ?_
        refine g_aload_n (i := 0) C dX1_take_61 rfl rfl ?_
        refine g_get C dX1_take_62 fl_X1_29 0 rfl rfl ?_
        refine g_iload_n (i := 1) C dX1_take_65 rfl rfl ?_
        refine g_aald (b := (ad (5 + z.toNatClampNeg))) C dX1_take_66 4 rfl (isSm_in c4_1) (soF_in c4_1) ?_
        refine g_callVN (av := []) C dX1_take_67 ln_X1_127 mf_X0_countTerms (5 + z.toNatClampNeg) (cU_S (isSm_z c4_1)) rfl (kX0_countTerms K ad S X z.toNatClampNeg (vp_updL (cpyG (fun _ => 0) (fC S z.toNatClampNeg) 13) (6 : Int32).toNatClampNeg (facO (S.2.2.2.2.1 s.toNatClampNeg) 23))  (isSm_z c4_1)  ) rfl rfl (Nat.le_of_ble_eq_true rfl) ⟨Nat.le_of_ble_eq_true rfl, Nat.le_of_ble_eq_true rfl⟩ ⟨Nat.zero_le _, Nat.zero_le _⟩ (fun _ => ?_)
        exact hR _ _ _ _ () dX1_take_70 (by rw [cTake, c4_1, cond_true, c11_2, cond_true, if_neg c32_3] <;> rfl) (by show _ = cW K ad (cTake S z s).2 X; rw [cTake, c4_1, cond_true, c11_2, cond_true, if_neg c32_3] <;> rfl)
      · skip
        refine g_bipush (v := (-5)) C dX1_take_36 (by decide) ?_
        exact hR _ _ _ _ () dX1_take_38 (by rw [cTake, c4_1, cond_true, c11_2, cond_true, if_pos c32_3] <;> rfl) (by show _ = cW K ad (cTake S z s).2 X; rw [cTake, c4_1, cond_true, c11_2, cond_true, if_pos c32_3] <;> rfl)
    · skip
      refine g_iconst (v := (-1)) C dX1_take_14 (by decide) ?_
      exact hR _ _ _ _ () dX1_take_15 (by rw [cTake, c4_1, cond_true, c11_2, cond_false] <;> rfl) (by show _ = cW K ad (cTake S z s).2 X; rw [cTake, c4_1, cond_true, c11_2, cond_false] <;> rfl)

set_option maxHeartbeats 600000 in
set_option maxRecDepth 100000 in
theorem kX1_near (K : KT) (ad : Nat → Nat) (S : CS) (X : va_W) (s : Int32) (z : Int32) : ∀ lau : Launch, Con lau yX1_near cX1_near 3 (some .int) 6 146 K (cW K ad S X) (fun _ : Unit => cW K ad ((cNear S s z).2) X) [.ref (ad 0), .int s, .int z] (some (.int ((cNear S s z).1))) := by
  refine conI (by decide) (Nat.le_of_ble_eq_true rfl) (fun E C hR => ?_)
  show G E K 0 0 (cW K ad S X) [(0, .ref (ad 0)), (1, .int s), (2, .int z)] 0 []
  refine g_iload_n (i := 1) C dX1_near_0 rfl rfl ?_
  refine g_callS (av := [.int s]) C dX1_near_1 ln_X1_41 mf_X1_isRegister (kX1_isRegister K (cW K ad S X) s) rfl rfl (Nat.le_of_ble_eq_true rfl) ⟨Nat.le_of_ble_eq_true rfl, Nat.le_of_ble_eq_true rfl⟩ ⟨Nat.zero_le _, Nat.zero_le _⟩ (fun _ => ?_)
  refine g_bz_eq (tgt := 14) C dX1_near_4 (by decide) (fun c4_1 => ?_) (fun c4_1 => ?_)
  · skip
    refine g_iconst (v := (-1)) C dX1_near_14 (by decide) ?_
    exact hR _ _ _ _ () dX1_near_15 (by rw [cNear, c4_1, cond_false] <;> rfl) (by show _ = cW K ad (cNear S s z).2 X; rw [cNear, c4_1, cond_false] <;> first | rfl | exact cU_in.symm)
  · skip
    refine g_iload_n (i := 2) C dX1_near_7 rfl rfl ?_
    refine g_callS (av := [.int z]) C dX1_near_8 ln_X1_114 mf_X1_isSum (kX1_isSum K (cW K ad S X) z) rfl rfl (Nat.le_of_ble_eq_true rfl) ⟨Nat.le_of_ble_eq_true rfl, Nat.le_of_ble_eq_true rfl⟩ ⟨Nat.zero_le _, Nat.zero_le _⟩ (fun _ => ?_)
    refine g_bz_ne (tgt := 16) C dX1_near_11 (by decide) (fun c11_2 => ?_) (fun c11_2 => ?_)
    · skip
      refine g_aload_n (i := 0) C dX1_near_16 rfl rfl ?_
      refine g_get C dX1_near_17 fl_X1_29 0 rfl rfl ?_
      refine g_iload_n (i := 2) C dX1_near_20 rfl rfl ?_
      refine g_aald (b := (ad (5 + z.toNatClampNeg))) C dX1_near_21 4 rfl (isSm_in c11_2) (soF_in c11_2) ?_
      refine g_iconst (v := 0) C dX1_near_22 (by decide) ?_
      refine g_eqw (cU_in (z := z.toNatClampNeg)) ?_
      refine g_callVN (av := [.int 0]) C dX1_near_23 ln_X1_132 mf_X0_slotOfTerm (5 + z.toNatClampNeg) (cU_S (isSm_z c11_2)) rfl (kX0_slotOfTerm K ad S X z.toNatClampNeg (fC S z.toNatClampNeg) 0 (isSm_z c11_2)  ) rfl rfl (Nat.le_of_ble_eq_true rfl) ⟨Nat.le_of_ble_eq_true rfl, Nat.le_of_ble_eq_true rfl⟩ ⟨Nat.zero_le _, Nat.zero_le _⟩ (fun _ => ?_)
      refine g_eqw (Eq.symm (cU_in (z := z.toNatClampNeg))) ?_
      refine g_bipush (v := 6) C dX1_near_26 (by decide) ?_
      refine g_icmp_le (tgt := 34) C dX1_near_28 (by decide) (fun c28_3 => ?_) (fun c28_3 => ?_)
      · skip
        refine g_aload_n (i := 0) C dX1_near_34 rfl rfl ?_
        refine g_iload_n (i := 1) C dX1_near_35 rfl rfl ?_
        refine g_aload_n (i := 0) C dX1_near_36 rfl rfl ?_
        refine g_get C dX1_near_37 fl_X1_29 0 rfl rfl ?_
        refine g_iload_n (i := 2) C dX1_near_40 rfl rfl ?_
        refine g_aald (b := (ad (5 + z.toNatClampNeg))) C dX1_near_41 4 rfl (isSm_in c11_2) (soF_in c11_2) ?_
        refine g_getN C dX1_near_42 fl_X1_120 (5 + z.toNatClampNeg) (cW_S (isSm_z c11_2)) rfl ?_
        refine g_bipush (v := 6) C dX1_near_45 (by decide) ?_
        refine g_lald C dX1_near_47 (15 + z.toNatClampNeg) (cW_A (isSm_z c11_2)) in6 ?_
        refine g_iconst (v := 3) C dX1_near_48 (by decide) ?_
        refine g_lshl (v := shlL ((S.2.2.2.2.2 z.toNatClampNeg) (6 : Int32).toNatClampNeg) 3) C dX1_near_49 rfl ?_
        refine g_callV (av := [.int s, .long (shlL ((S.2.2.2.2.2 z.toNatClampNeg) (6 : Int32).toNatClampNeg) 3)]) C dX1_near_50 ln_X1_53 mf_X1_holdValue 0 rfl rfl (kX1_holdValue K ad S X s (shlL ((S.2.2.2.2.2 z.toNatClampNeg) (6 : Int32).toNatClampNeg) 3) c4_1) rfl rfl (Nat.le_of_ble_eq_true rfl) ⟨Nat.le_of_ble_eq_true rfl, Nat.le_of_ble_eq_true rfl⟩ ⟨Nat.zero_le _, Nat.zero_le _⟩ (fun _ => ?_)
        exact hR _ _ _ _ () dX1_near_53 (by rw [cNear, c4_1, cond_true, c11_2, cond_true, if_pos c28_3] <;> rfl) (by show _ = cW K ad (cNear S s z).2 X; rw [cNear, c4_1, cond_true, c11_2, cond_true, if_pos c28_3] <;> first | rfl | exact cU_in.symm)
      · skip
        refine g_bipush (v := (-2)) C dX1_near_31 (by decide) ?_
        exact hR _ _ _ _ () dX1_near_33 (by rw [cNear, c4_1, cond_true, c11_2, cond_true, if_neg c28_3] <;> rfl) (by show _ = cW K ad (cNear S s z).2 X; rw [cNear, c4_1, cond_true, c11_2, cond_true, if_neg c28_3] <;> first | rfl | exact cU_in.symm)
    · skip
      refine g_iconst (v := (-1)) C dX1_near_14 (by decide) ?_
      exact hR _ _ _ _ () dX1_near_15 (by rw [cNear, c4_1, cond_true, c11_2, cond_false] <;> rfl) (by show _ = cW K ad (cNear S s z).2 X; rw [cNear, c4_1, cond_true, c11_2, cond_false] <;> first | rfl | exact cU_in.symm)

set_option maxHeartbeats 600000 in
set_option maxRecDepth 100000 in
theorem kX1_divideOnce (K : KT) (ad : Nat → Nat) (S : CS) (X : va_W) (r q : Nat → Int64) (y : Nat) (ds rs : Int32) (hy : y < 10) (h8 : y ≠ 8) (h9 : y ≠ 9) (hds : vp_in ds 13) (hrs : vp_in rs 13) : ∀ lau : Launch, Con lau yX1_divideOnce cX1_divideOnce 7 (some .boolean) 6 142 K (c2 K ad S r q X) (fun _ : Unit => c2 K ad S (dOnce (fC S y) ds rs r q).2.1 (dOnce (fC S y) ds rs r q).2.2 X) [.ref (ad 0), .ref (ad (5 + y)), .int ds, .int rs] (some (.int (bz (dOnce (fC S y) ds rs r q).1))) := by
  refine conZ (by decide) (Nat.le_of_ble_eq_true rfl) (fun E C hR => ?_)
  show G E K 0 0 (c2 K ad S r q X) [(0, .ref (ad 0)), (1, .ref (ad (5 + y))), (2, .int ds), (3, .int rs)] 0 []
  refine g_iload_n (i := 3) C dX1_divideOnce_0 rfl rfl ?_
  refine g_iload_n (i := 2) C dX1_divideOnce_1 rfl rfl ?_
  refine g_isub C dX1_divideOnce_2 ?_
  refine g_istore (lv2 := [(0, .ref (ad 0)), (1, .ref (ad (5 + y))), (2, .int ds), (3, .int rs), (4, .int (rs - ds))]) C dX1_divideOnce_3 (by decide) rfl ?_
  refine g_aload_n (i := 0) C dX1_divideOnce_5 rfl rfl ?_
  refine g_get C dX1_divideOnce_6 fl_X1_38 0 rfl rfl ?_
  refine g_getN C dX1_divideOnce_9 fl_X1_120 (5 + 9) (c2_S (by decide)) rfl ?_
  refine g_iload_n (i := 3) C dX1_divideOnce_12 rfl rfl ?_
  refine g_lald C dX1_divideOnce_13 24 c2_A9 hrs ?_
  refine g_aload_n (i := 1) C dX1_divideOnce_14 rfl rfl ?_
  refine g_getN C dX1_divideOnce_15 fl_X1_120 (5 + y) (c2_S hy) rfl ?_
  refine g_iload_n (i := 2) C dX1_divideOnce_18 rfl rfl ?_
  refine g_lald C dX1_divideOnce_19 (15 + y) (c2_An hy h8 h9) hds ?_
  refine g_callS (av := [.long (q rs.toNatClampNeg), .long ((fC S y) ds.toNatClampNeg)]) C dX1_divideOnce_20 ln_X1_198 mf_X1_factorQuotient (kX1_factorQuotient K (c2 K ad S r q X) (q rs.toNatClampNeg) ((fC S y) ds.toNatClampNeg)) rfl rfl (Nat.le_of_ble_eq_true rfl) ⟨Nat.le_of_ble_eq_true rfl, Nat.le_of_ble_eq_true rfl⟩ ⟨Nat.zero_le _, Nat.zero_le _⟩ (fun _ => ?_)
  refine g_lstore (lv2 := [(0, .ref (ad 0)), (1, .ref (ad (5 + y))), (2, .int ds), (3, .int rs), (4, .int (rs - ds)), (5, .long (facQ (q rs.toNatClampNeg) ((fC S y) ds.toNatClampNeg)))]) C dX1_divideOnce_23 (by decide) rfl ?_
  refine g_aload_n (i := 0) C dX1_divideOnce_25 rfl rfl ?_
  refine g_get C dX1_divideOnce_26 fl_X1_34 0 rfl rfl ?_
  refine g_iload C dX1_divideOnce_29 rfl ?_
  refine g_lload C dX1_divideOnce_31 rfl ?_
  refine g_callVN (av := [.int (rs - ds), .long (facQ (q rs.toNatClampNeg) ((fC S y) ds.toNatClampNeg))]) C dX1_divideOnce_33 ln_X1_201 mf_X0_put (5 + 8) (c2_S (by decide)) rfl (kD_put K ad S X r q (rs - ds) (facQ (q rs.toNatClampNeg) ((fC S y) ds.toNatClampNeg))) rfl rfl (Nat.le_of_ble_eq_true rfl) ⟨Nat.le_of_ble_eq_true rfl, Nat.le_of_ble_eq_true rfl⟩ ⟨Nat.zero_le _, Nat.zero_le _⟩ (fun _ => ?_)
  refine g_bz_eq (tgt := 59) C dX1_divideOnce_36 (by decide) (fun c36_1 => ?_) (fun c36_1 => ?_)
  · skip
    refine g_iconst (v := 0) C dX1_divideOnce_59 (by decide) ?_
    exact hR _ _ _ _ () dX1_divideOnce_60 (by rw [dOnce, c36_1, cond_false] <;> rfl) (by show _ = c2 K ad S (dOnce (fC S y) ds rs r q).2.1 (dOnce (fC S y) ds rs r q).2.2 X; rw [dOnce, c36_1, cond_false] <;> rfl)
  · skip
    refine g_aload_n (i := 0) C dX1_divideOnce_39 rfl rfl ?_
    refine g_get C dX1_divideOnce_40 fl_X1_38 0 rfl rfl ?_
    refine g_iload C dX1_divideOnce_43 rfl ?_
    refine g_lload C dX1_divideOnce_45 rfl ?_
    refine g_lneg C dX1_divideOnce_47 ?_
    refine g_aload_n (i := 1) C dX1_divideOnce_48 rfl rfl ?_
    refine g_callVN (av := [.int (rs - ds), .long (-(facQ (q rs.toNatClampNeg) ((fC S y) ds.toNatClampNeg))), .ref (ad (5 + y))]) C dX1_divideOnce_49 ln_X1_205 mf_X0_putProducts (5 + 9) (c2_S (by decide)) rfl (kD_pp K ad S X ((putF r (rs - ds) (facQ (q rs.toNatClampNeg) ((fC S y) ds.toNatClampNeg))).2) q (rs - ds) (-(facQ (q rs.toNatClampNeg) ((fC S y) ds.toNatClampNeg))) y hy h8 h9) rfl rfl (Nat.le_of_ble_eq_true rfl) ⟨Nat.le_of_ble_eq_true rfl, Nat.le_of_ble_eq_true rfl⟩ ⟨Nat.zero_le _, Nat.zero_le _⟩ (fun _ => ?_)
    refine g_bz_eq (tgt := 59) C dX1_divideOnce_52 (by decide) (fun c52_2 => ?_) (fun c52_2 => ?_)
    · skip
      refine g_iconst (v := 0) C dX1_divideOnce_59 (by decide) ?_
      exact hR _ _ _ _ () dX1_divideOnce_60 (by rw [dOnce, c36_1, cond_true, c52_2] <;> rfl) (by show _ = c2 K ad S (dOnce (fC S y) ds rs r q).2.1 (dOnce (fC S y) ds rs r q).2.2 X; rw [dOnce, c36_1, cond_true, c52_2] <;> rfl)
    · skip
      refine g_iconst (v := 1) C dX1_divideOnce_55 (by decide) ?_
      refine g_goto (tgt := 60) C dX1_divideOnce_56 (by decide) ?_
      exact hR _ _ _ _ () dX1_divideOnce_60 (by rw [dOnce, c36_1, cond_true, c52_2] <;> rfl) (by show _ = c2 K ad S (dOnce (fC S y) ds rs r q).2.1 (dOnce (fC S y) ds rs r q).2.2 X; rw [dOnce, c36_1, cond_true, c52_2] <;> rfl)

set_option maxHeartbeats 600000 in
set_option maxRecDepth 100000 in
theorem kX1_divide (K : KT) (ad : Nat → Nat) (S : CS) (X : va_W) (q : Int32) (r : Int32) (x : Int32) (y : Int32) (n : Int32) : ∀ lau : Launch, Con lau yX1_divide cX1_divide 10 (some .int) 7 168 K (cW K ad S X) (fun _ : Unit => cW K ad ((cDiv S q r x y n).2) X) [.ref (ad 0), .int q, .int r, .int x, .int y, .int n] (some (.int ((cDiv S q r x y n).1))) := by
  refine conI (by decide) (Nat.le_of_ble_eq_true rfl) (fun E C hR => ?_)
  show G E K 0 0 (cW K ad S X) [(0, .ref (ad 0)), (1, .int q), (2, .int r), (3, .int x), (4, .int y), (5, .int n)] 0 []
  refine g_iload_n (i := 1) C dX1_divide_0 rfl rfl ?_
  refine g_callS (av := [.int q]) C dX1_divide_1 ln_X1_114 mf_X1_isSum (kX1_isSum K (cW K ad S X) q) rfl rfl (Nat.le_of_ble_eq_true rfl) ⟨Nat.le_of_ble_eq_true rfl, Nat.le_of_ble_eq_true rfl⟩ ⟨Nat.zero_le _, Nat.zero_le _⟩ (fun _ => ?_)
  refine g_bz_eq (tgt := 47) C dX1_divide_4 (by decide) (fun c4_1 => ?_) (fun c4_1 => ?_)
  · skip
    refine g_iconst (v := (-1)) C dX1_divide_47 (by decide) ?_
    exact hR _ _ _ _ () dX1_divide_48 (by rw [cDiv, c4_1, cond_false] <;> rfl) (by show _ = cW K ad (cDiv S q r x y n).2 X; rw [cDiv, c4_1, cond_false] <;> rfl)
  · skip
    refine g_iload_n (i := 2) C dX1_divide_7 rfl rfl ?_
    refine g_callS (av := [.int r]) C dX1_divide_8 ln_X1_114 mf_X1_isSum (kX1_isSum K (cW K ad S X) r) rfl rfl (Nat.le_of_ble_eq_true rfl) ⟨Nat.le_of_ble_eq_true rfl, Nat.le_of_ble_eq_true rfl⟩ ⟨Nat.zero_le _, Nat.zero_le _⟩ (fun _ => ?_)
    refine g_bz_eq (tgt := 47) C dX1_divide_11 (by decide) (fun c11_2 => ?_) (fun c11_2 => ?_)
    · skip
      refine g_iconst (v := (-1)) C dX1_divide_47 (by decide) ?_
      exact hR _ _ _ _ () dX1_divide_48 (by rw [cDiv, c4_1, cond_true, c11_2, cond_false] <;> rfl) (by show _ = cW K ad (cDiv S q r x y n).2 X; rw [cDiv, c4_1, cond_true, c11_2, cond_false] <;> rfl)
    · skip
      refine g_iload_n (i := 1) C dX1_divide_14 rfl rfl ?_
      refine g_iload_n (i := 2) C dX1_divide_15 rfl rfl ?_
      refine g_icmp_eq (tgt := 47) C dX1_divide_16 (by decide) (fun c16_3 => ?_) (fun c16_3 => ?_)
      · skip
        refine g_iconst (v := (-1)) C dX1_divide_47 (by decide) ?_
        exact hR _ _ _ _ () dX1_divide_48 (by rw [cDiv, c4_1, cond_true, c11_2, cond_true, if_pos c16_3] <;> rfl) (by show _ = cW K ad (cDiv S q r x y n).2 X; rw [cDiv, c4_1, cond_true, c11_2, cond_true, if_pos c16_3] <;> rfl)
      · skip
        refine g_iload_n (i := 3) C dX1_divide_19 rfl rfl ?_
        refine g_callS (av := [.int x]) C dX1_divide_20 ln_X1_114 mf_X1_isSum (kX1_isSum K (cW K ad S X) x) rfl rfl (Nat.le_of_ble_eq_true rfl) ⟨Nat.le_of_ble_eq_true rfl, Nat.le_of_ble_eq_true rfl⟩ ⟨Nat.zero_le _, Nat.zero_le _⟩ (fun _ => ?_)
        refine g_bz_eq (tgt := 47) C dX1_divide_23 (by decide) (fun c23_4 => ?_) (fun c23_4 => ?_)
        · skip
          refine g_iconst (v := (-1)) C dX1_divide_47 (by decide) ?_
          exact hR _ _ _ _ () dX1_divide_48 (by rw [cDiv, c4_1, cond_true, c11_2, cond_true, if_neg c16_3, c23_4, cond_false] <;> rfl) (by show _ = cW K ad (cDiv S q r x y n).2 X; rw [cDiv, c4_1, cond_true, c11_2, cond_true, if_neg c16_3, c23_4, cond_false] <;> rfl)
        · skip
          refine g_iload C dX1_divide_26 rfl ?_
          refine g_callS (av := [.int y]) C dX1_divide_28 ln_X1_114 mf_X1_isSum (kX1_isSum K (cW K ad S X) y) rfl rfl (Nat.le_of_ble_eq_true rfl) ⟨Nat.le_of_ble_eq_true rfl, Nat.le_of_ble_eq_true rfl⟩ ⟨Nat.zero_le _, Nat.zero_le _⟩ (fun _ => ?_)
          refine g_bz_eq (tgt := 47) C dX1_divide_31 (by decide) (fun c31_5 => ?_) (fun c31_5 => ?_)
          · skip
            refine g_iconst (v := (-1)) C dX1_divide_47 (by decide) ?_
            exact hR _ _ _ _ () dX1_divide_48 (by rw [cDiv, c4_1, cond_true, c11_2, cond_true, if_neg c16_3, c23_4, cond_true, c31_5, cond_false] <;> rfl) (by show _ = cW K ad (cDiv S q r x y n).2 X; rw [cDiv, c4_1, cond_true, c11_2, cond_true, if_neg c16_3, c23_4, cond_true, c31_5, cond_false] <;> rfl)
          · skip
            refine g_iload C dX1_divide_34 rfl ?_
            refine g_iconst (v := 1) C dX1_divide_36 (by decide) ?_
            refine g_icmp_lt (tgt := 47) C dX1_divide_37 (by decide) (fun c37_6 => ?_) (fun c37_6 => ?_)
            · skip
              refine g_iconst (v := (-1)) C dX1_divide_47 (by decide) ?_
              exact hR _ _ _ _ () dX1_divide_48 (by rw [cDiv, c4_1, cond_true, c11_2, cond_true, if_neg c16_3, c23_4, cond_true, c31_5, cond_true, if_pos c37_6] <;> rfl) (by show _ = cW K ad (cDiv S q r x y n).2 X; rw [cDiv, c4_1, cond_true, c11_2, cond_true, if_neg c16_3, c23_4, cond_true, c31_5, cond_true, if_pos c37_6] <;> rfl)
            · skip
              refine g_iload C dX1_divide_40 rfl ?_
              refine g_bipush (v := 20) C dX1_divide_42 (by decide) ?_
              refine g_icmp_le (tgt := 49) C dX1_divide_44 (by decide) (fun c44_7 => ?_) (fun c44_7 => ?_)
              · skip
                refine g_aload_n (i := 0) C dX1_divide_49 rfl rfl ?_
                refine g_get C dX1_divide_50 fl_X1_29 0 rfl rfl ?_
                refine g_iload C dX1_divide_53 rfl ?_
                refine g_aald (b := (ad (5 + y.toNatClampNeg))) C dX1_divide_55 4 rfl (isSm_in c31_5) (soF_in c31_5) ?_
                refine g_astore (lv2 := [(0, .ref (ad 0)), (1, .int q), (2, .int r), (3, .int x), (4, .int y), (5, .int n), (6, .ref (ad (5 + y.toNatClampNeg)))]) C dX1_divide_56 (by decide) rfl ?_
                refine g_aload C dX1_divide_58 rfl ?_
                refine g_iconst (v := 0) C dX1_divide_60 (by decide) ?_
                refine g_eqw (cU_in (z := y.toNatClampNeg)) ?_
                refine g_callVN (av := [.int 0]) C dX1_divide_61 ln_X1_132 mf_X0_slotOfTerm (5 + y.toNatClampNeg) (cU_S (isSm_z c31_5)) rfl (kX0_slotOfTerm K ad S X y.toNatClampNeg (fC S y.toNatClampNeg) 0 (isSm_z c31_5)  ) rfl rfl (Nat.le_of_ble_eq_true rfl) ⟨Nat.le_of_ble_eq_true rfl, Nat.le_of_ble_eq_true rfl⟩ ⟨Nat.zero_le _, Nat.zero_le _⟩ (fun _ => ?_)
                refine g_eqw (Eq.symm (cU_in (z := y.toNatClampNeg))) ?_
                refine g_istore (lv2 := [(0, .ref (ad 0)), (1, .int q), (2, .int r), (3, .int x), (4, .int y), (5, .int n), (6, .ref (ad (5 + y.toNatClampNeg))), (7, .int (sltR (fC S y.toNatClampNeg) 0))]) C dX1_divide_64 (by decide) rfl ?_
                refine g_iload C dX1_divide_66 rfl ?_
                refine g_if_lt (tgt := 85) C dX1_divide_68 (by decide) (fun c68_8 => ?_) (fun c68_8 => ?_)
                · skip
                  refine g_bipush (v := (-2)) C dX1_divide_85 (by decide) ?_
                  exact hR _ _ _ _ () dX1_divide_87 (by rw [cDiv, c4_1, cond_true, c11_2, cond_true, if_neg c16_3, c23_4, cond_true, c31_5, cond_true, if_neg c37_6, if_pos c44_7, if_pos c68_8] <;> rfl) (by show _ = cW K ad (cDiv S q r x y n).2 X; rw [cDiv, c4_1, cond_true, c11_2, cond_true, if_neg c16_3, c23_4, cond_true, c31_5, cond_true, if_neg c37_6, if_pos c44_7, if_pos c68_8] <;> rfl)
                · skip
                  refine g_aload C dX1_divide_71 rfl ?_
                  refine g_getN C dX1_divide_73 fl_X1_120 (5 + y.toNatClampNeg) (cW_S (isSm_z c31_5)) rfl ?_
                  refine g_iload C dX1_divide_76 rfl ?_
                  refine g_lald C dX1_divide_78 (15 + y.toNatClampNeg) (cW_A (isSm_z c31_5)) (sltR_in c68_8) ?_
                  refine g_callS (av := [.long ((S.2.2.2.2.2 y.toNatClampNeg) (sltR (fC S y.toNatClampNeg) 0).toNatClampNeg)]) C dX1_divide_79 ln_X1_148 mf_X1_isPowerOfTwo (kX1_isPowerOfTwo K (cW K ad S X) ((S.2.2.2.2.2 y.toNatClampNeg) (sltR (fC S y.toNatClampNeg) 0).toNatClampNeg)) rfl rfl (Nat.le_of_ble_eq_true rfl) ⟨Nat.le_of_ble_eq_true rfl, Nat.le_of_ble_eq_true rfl⟩ ⟨Nat.zero_le _, Nat.zero_le _⟩ (fun _ => ?_)
                  refine g_bz_ne (tgt := 88) C dX1_divide_82 (by decide) (fun c82_9 => ?_) (fun c82_9 => ?_)
                  · skip
                    refine g_aload_n (i := 0) C dX1_divide_88 rfl rfl ?_
                    refine g_get C dX1_divide_89 fl_X1_34 0 rfl rfl ?_
                    refine g_eqw (cU_in (z := 8)) ?_
                    refine g_callVN (av := []) C dX1_divide_92 ln_X1_152 mf_X0_clear (5 + 8) (cU_S (by decide)) rfl (kX0_clear K ad S X 8 (fC S 8)  (by decide)  ) rfl rfl (Nat.le_of_ble_eq_true rfl) ⟨Nat.le_of_ble_eq_true rfl, Nat.le_of_ble_eq_true rfl⟩ ⟨Nat.zero_le _, Nat.zero_le _⟩ (fun _ => ?_)
                    refine g_aload_n (i := 0) C dX1_divide_95 rfl rfl ?_
                    refine g_get C dX1_divide_96 fl_X1_38 0 rfl rfl ?_
                    refine g_aload_n (i := 0) C dX1_divide_99 rfl rfl ?_
                    refine g_get C dX1_divide_100 fl_X1_29 0 rfl rfl ?_
                    refine g_iload_n (i := 3) C dX1_divide_103 rfl rfl ?_
                    refine g_aald (b := (ad (5 + x.toNatClampNeg))) C dX1_divide_104 4 rfl (isSm_in c23_4) (soF_in c23_4) ?_
                    refine g_eqw (cU_in (z := 9)) ?_
                    refine g_callVN (av := [.ref (ad (5 + x.toNatClampNeg))]) C dX1_divide_105 ln_X1_144 mf_X0_become (5 + 9) (cU_S (by decide)) rfl (kX0_become K ad (sF S (uF (fC S) 8 (cpyG (fun _ => 0) (fC S 8) 13))) X 9 (fC (sF S (uF (fC S) 8 (cpyG (fun _ => 0) (fC S 8) 13))) 9) x.toNatClampNeg (by decide) (isSm_z c23_4) (isSm_n9 c23_4) ) rfl rfl (Nat.le_of_ble_eq_true rfl) ⟨Nat.le_of_ble_eq_true rfl, Nat.le_of_ble_eq_true rfl⟩ ⟨Nat.zero_le _, Nat.zero_le _⟩ (fun _ => ?_)
                    refine g_eqw (c2_en (isSm_n8 c23_4)) ?_
                    refine g_iconst (v := 0) C dX1_divide_108 (by decide) ?_
                    refine g_istore (lv2 := [(0, .ref (ad 0)), (1, .int q), (2, .int r), (3, .int x), (4, .int y), (5, .int n), (6, .ref (ad (5 + y.toNatClampNeg))), (7, .int (sltR (fC S y.toNatClampNeg) 0)), (8, .int 0)]) C dX1_divide_109 (by decide) rfl ?_
                    obtain ⟨m, hm, em⟩ := rnd_k c37_6 c44_7
                    have lo : ∀ (fuel : Nat) (i : Nat) (r0 q0 : Nat → Int64), i ≤ m → m < i + fuel → dvL (gC S y) (sltR (gC S y) 0) (m - i) i r0 q0 = dvS S x y m → G E K 0 0 (c2 K ad S r0 q0 X) [(0, .ref (ad 0)), (1, .int q), (2, .int r), (3, .int x), (4, .int y), (5, .int n), (6, .ref (ad (5 + y.toNatClampNeg))), (7, .int (sltR (fC S y.toNatClampNeg) 0)), (8, .int (nI i))] 111 [] := by
                      intro fuel
                      induction fuel with
                      | zero =>
                        intro i r0 q0 hlo0 hlo1 hlo2
                        omega
                      | succ fuel ihlo =>
                        intro i r0 q0 hlo0 hlo1 hlo2
                        refine g_iload C dX1_divide_111 rfl ?_
                        refine g_iload C dX1_divide_113 rfl ?_
                        refine g_icmp_ge (tgt := 168) C dX1_divide_115 (by decide) (fun c115_10 => ?_) (fun c115_10 => ?_)
                        · skip
                          rw [em] at c115_10
                          have ei : i = m := by have := nle c115_10 (by omega) (by omega); omega
                          refine g_aload_n (i := 0) C dX1_divide_168 rfl rfl ?_
                          refine g_get C dX1_divide_169 fl_X1_29 0 rfl rfl ?_
                          refine g_iload_n (i := 1) C dX1_divide_172 rfl rfl ?_
                          refine g_aald (b := (ad (5 + q.toNatClampNeg))) C dX1_divide_173 4 rfl (isSm_in c4_1) (soF_in c4_1) ?_
                          refine g_aload_n (i := 0) C dX1_divide_174 rfl rfl ?_
                          refine g_get C dX1_divide_175 fl_X1_34 0 rfl rfl ?_
                          refine g_eqw (cU_in (z := q.toNatClampNeg)) ?_
                          refine g_callVN (av := [.ref (ad 13)]) C dX1_divide_178 ln_X1_144 mf_X0_become (5 + q.toNatClampNeg) (cU_S (isSm_z c4_1)) rfl (kX0_become K ad (sF S (uF (uF (fC S) 8 r0) 9 q0)) X q.toNatClampNeg (fC (sF S (uF (uF (fC S) 8 r0) 9 q0)) q.toNatClampNeg) 8 (isSm_z c4_1) (by decide) (Ne.symm (isSm_n8 c4_1)) ) rfl rfl (Nat.le_of_ble_eq_true rfl) ⟨Nat.le_of_ble_eq_true rfl, Nat.le_of_ble_eq_true rfl⟩ ⟨Nat.zero_le _, Nat.zero_le _⟩ (fun _ => ?_)
                          refine g_aload_n (i := 0) C dX1_divide_181 rfl rfl ?_
                          refine g_get C dX1_divide_182 fl_X1_29 0 rfl rfl ?_
                          refine g_iload_n (i := 2) C dX1_divide_185 rfl rfl ?_
                          refine g_aald (b := (ad (5 + r.toNatClampNeg))) C dX1_divide_186 4 rfl (isSm_in c11_2) (soF_in c11_2) ?_
                          refine g_aload_n (i := 0) C dX1_divide_187 rfl rfl ?_
                          refine g_get C dX1_divide_188 fl_X1_38 0 rfl rfl ?_
                          refine g_eqw (cU_in (z := r.toNatClampNeg)) ?_
                          refine g_callVN (av := [.ref (ad 14)]) C dX1_divide_191 ln_X1_144 mf_X0_become (5 + r.toNatClampNeg) (cU_S (isSm_z c11_2)) rfl (kX0_become K ad (sF (sF S (uF (uF (fC S) 8 r0) 9 q0)) (uF (fC (sF S (uF (uF (fC S) 8 r0) 9 q0))) q.toNatClampNeg (cpyG (fC (sF S (uF (uF (fC S) 8 r0) 9 q0)) 8) (fC (sF S (uF (uF (fC S) 8 r0) 9 q0)) q.toNatClampNeg) 13))) X r.toNatClampNeg (fC (sF (sF S (uF (uF (fC S) 8 r0) 9 q0)) (uF (fC (sF S (uF (uF (fC S) 8 r0) 9 q0))) q.toNatClampNeg (cpyG (fC (sF S (uF (uF (fC S) 8 r0) 9 q0)) 8) (fC (sF S (uF (uF (fC S) 8 r0) 9 q0)) q.toNatClampNeg) 13))) r.toNatClampNeg) 9 (isSm_z c11_2) (by decide) (Ne.symm (isSm_n9 c11_2)) ) rfl rfl (Nat.le_of_ble_eq_true rfl) ⟨Nat.le_of_ble_eq_true rfl, Nat.le_of_ble_eq_true rfl⟩ ⟨Nat.zero_le _, Nat.zero_le _⟩ (fun _ => ?_)
                          refine g_iload C dX1_divide_194 rfl ?_
                          exact hR _ _ _ _ () dX1_divide_196 (by subst ei; rw [cDiv, c4_1, cond_true, c11_2, cond_true, if_neg c16_3, c23_4, cond_true, c31_5, cond_true, if_neg c37_6, if_pos c44_7, if_neg c68_8, c82_9, cond_true, em, nI_clamp (by omega), dvE, ← hlo2, dvL_0] <;> rfl) (by show _ = cW K ad (cDiv S q r x y n).2 X; subst ei; rw [cDiv, c4_1, cond_true, c11_2, cond_true, if_neg c16_3, c23_4, cond_true, c31_5, cond_true, if_neg c37_6, if_pos c44_7, if_neg c68_8, c82_9, cond_true, em, nI_clamp (by omega), dvE, ← hlo2, dvL_0] <;> rfl)
                        · skip
                          rw [em] at c115_10
                          have ei : i < m := nlt c115_10 (by omega) (by omega)
                          refine g_aload_n (i := 0) C dX1_divide_118 rfl rfl ?_
                          refine g_get C dX1_divide_119 fl_X1_38 0 rfl rfl ?_
                          refine g_iconst (v := 0) C dX1_divide_122 (by decide) ?_
                          refine g_callVN (av := [.int 0]) C dX1_divide_123 ln_X1_132 mf_X0_slotOfTerm (5 + 9) (c2_S (by decide)) rfl (kD_slt K ad S X r0 q0 0) rfl rfl (Nat.le_of_ble_eq_true rfl) ⟨Nat.le_of_ble_eq_true rfl, Nat.le_of_ble_eq_true rfl⟩ ⟨Nat.zero_le _, Nat.zero_le _⟩ (fun _ => ?_)
                          refine g_istore (lv2 := [(0, .ref (ad 0)), (1, .int q), (2, .int r), (3, .int x), (4, .int y), (5, .int n), (6, .ref (ad (5 + y.toNatClampNeg))), (7, .int (sltR (fC S y.toNatClampNeg) 0)), (8, .int (nI i)), (9, .int (sltR q0 0))]) C dX1_divide_126 (by decide) rfl ?_
                          refine g_iload C dX1_divide_128 rfl ?_
                          refine g_if_lt (tgt := 168) C dX1_divide_130 (by decide) (fun c130_11 => ?_) (fun c130_11 => ?_)
                          · skip
                            refine g_aload_n (i := 0) C dX1_divide_168 rfl rfl ?_
                            refine g_get C dX1_divide_169 fl_X1_29 0 rfl rfl ?_
                            refine g_iload_n (i := 1) C dX1_divide_172 rfl rfl ?_
                            refine g_aald (b := (ad (5 + q.toNatClampNeg))) C dX1_divide_173 4 rfl (isSm_in c4_1) (soF_in c4_1) ?_
                            refine g_aload_n (i := 0) C dX1_divide_174 rfl rfl ?_
                            refine g_get C dX1_divide_175 fl_X1_34 0 rfl rfl ?_
                            refine g_eqw (cU_in (z := q.toNatClampNeg)) ?_
                            refine g_callVN (av := [.ref (ad 13)]) C dX1_divide_178 ln_X1_144 mf_X0_become (5 + q.toNatClampNeg) (cU_S (isSm_z c4_1)) rfl (kX0_become K ad (sF S (uF (uF (fC S) 8 r0) 9 q0)) X q.toNatClampNeg (fC (sF S (uF (uF (fC S) 8 r0) 9 q0)) q.toNatClampNeg) 8 (isSm_z c4_1) (by decide) (Ne.symm (isSm_n8 c4_1)) ) rfl rfl (Nat.le_of_ble_eq_true rfl) ⟨Nat.le_of_ble_eq_true rfl, Nat.le_of_ble_eq_true rfl⟩ ⟨Nat.zero_le _, Nat.zero_le _⟩ (fun _ => ?_)
                            refine g_aload_n (i := 0) C dX1_divide_181 rfl rfl ?_
                            refine g_get C dX1_divide_182 fl_X1_29 0 rfl rfl ?_
                            refine g_iload_n (i := 2) C dX1_divide_185 rfl rfl ?_
                            refine g_aald (b := (ad (5 + r.toNatClampNeg))) C dX1_divide_186 4 rfl (isSm_in c11_2) (soF_in c11_2) ?_
                            refine g_aload_n (i := 0) C dX1_divide_187 rfl rfl ?_
                            refine g_get C dX1_divide_188 fl_X1_38 0 rfl rfl ?_
                            refine g_eqw (cU_in (z := r.toNatClampNeg)) ?_
                            refine g_callVN (av := [.ref (ad 14)]) C dX1_divide_191 ln_X1_144 mf_X0_become (5 + r.toNatClampNeg) (cU_S (isSm_z c11_2)) rfl (kX0_become K ad (sF (sF S (uF (uF (fC S) 8 r0) 9 q0)) (uF (fC (sF S (uF (uF (fC S) 8 r0) 9 q0))) q.toNatClampNeg (cpyG (fC (sF S (uF (uF (fC S) 8 r0) 9 q0)) 8) (fC (sF S (uF (uF (fC S) 8 r0) 9 q0)) q.toNatClampNeg) 13))) X r.toNatClampNeg (fC (sF (sF S (uF (uF (fC S) 8 r0) 9 q0)) (uF (fC (sF S (uF (uF (fC S) 8 r0) 9 q0))) q.toNatClampNeg (cpyG (fC (sF S (uF (uF (fC S) 8 r0) 9 q0)) 8) (fC (sF S (uF (uF (fC S) 8 r0) 9 q0)) q.toNatClampNeg) 13))) r.toNatClampNeg) 9 (isSm_z c11_2) (by decide) (Ne.symm (isSm_n9 c11_2)) ) rfl rfl (Nat.le_of_ble_eq_true rfl) ⟨Nat.le_of_ble_eq_true rfl, Nat.le_of_ble_eq_true rfl⟩ ⟨Nat.zero_le _, Nat.zero_le _⟩ (fun _ => ?_)
                            refine g_iload C dX1_divide_194 rfl ?_
                            exact hR _ _ _ _ () dX1_divide_196 (by rw [cDiv, c4_1, cond_true, c11_2, cond_true, if_neg c16_3, c23_4, cond_true, c31_5, cond_true, if_neg c37_6, if_pos c44_7, if_neg c68_8, c82_9, cond_true, em, nI_clamp (by omega), dvE, ← hlo2, dvL_s ei, if_pos c130_11] <;> rfl) (by show _ = cW K ad (cDiv S q r x y n).2 X; rw [cDiv, c4_1, cond_true, c11_2, cond_true, if_neg c16_3, c23_4, cond_true, c31_5, cond_true, if_neg c37_6, if_pos c44_7, if_neg c68_8, c82_9, cond_true, em, nI_clamp (by omega), dvE, ← hlo2, dvL_s ei, if_pos c130_11] <;> rfl)
                          · skip
                            refine g_iload C dX1_divide_133 rfl ?_
                            refine g_iload C dX1_divide_135 rfl ?_
                            refine g_isub C dX1_divide_137 ?_
                            refine g_bipush (v := (-6)) C dX1_divide_138 (by decide) ?_
                            refine g_icmp_ge (tgt := 146) C dX1_divide_140 (by decide) (fun c140_12 => ?_) (fun c140_12 => ?_)
                            · skip
                              refine g_aload_n (i := 0) C dX1_divide_146 rfl rfl ?_
                              refine g_aload C dX1_divide_147 rfl ?_
                              refine g_iload C dX1_divide_149 rfl ?_
                              refine g_iload C dX1_divide_151 rfl ?_
                              refine g_callV (av := [.ref (ad (5 + y.toNatClampNeg)), .int (sltR (fC S y.toNatClampNeg) 0), .int (sltR q0 0)]) C dX1_divide_153 ln_X1_155 mf_X1_divideOnce 0 rfl rfl (kX1_divideOnce K ad S X r0 q0 y.toNatClampNeg (sltR (fC S y.toNatClampNeg) 0) (sltR q0 0) (isSm_z c31_5) (isSm_n8 c31_5) (isSm_n9 c31_5) (sltR_in c68_8) (sltR_in c130_11)) rfl rfl (Nat.le_of_ble_eq_true rfl) ⟨Nat.le_of_ble_eq_true rfl, Nat.le_of_ble_eq_true rfl⟩ ⟨Nat.zero_le _, Nat.zero_le _⟩ (fun _ => ?_)
                              refine g_bz_ne (tgt := 162) C dX1_divide_156 (by decide) (fun c156_13 => ?_) (fun c156_13 => ?_)
                              · skip
                                refine g_iinc (v := nI (i + 1)) (lv2 := [(0, .ref (ad 0)), (1, .int q), (2, .int r), (3, .int x), (4, .int y), (5, .int n), (6, .ref (ad (5 + y.toNatClampNeg))), (7, .int (sltR (fC S y.toNatClampNeg) 0)), (8, .int (nI (i + 1))), (9, .int (sltR q0 0))]) C dX1_divide_162 rfl (nI_inc i) (by decide) rfl ?_
                                refine g_goto (tgt := 111) C dX1_divide_165 (by decide) ?_
                                exact g_lvs [0, 1, 2, 3, 4, 5, 6, 7, 8] rfl (ihlo (i + 1) _ _ (by omega) (by omega) (by rw [← hlo2, dvL_s ei, if_neg c130_11, if_pos c140_12, c156_13, cond_true] <;> rfl))
                              · skip
                                refine g_bipush (v := (-5)) C dX1_divide_159 (by decide) ?_
                                exact hR _ _ _ _ () dX1_divide_161 (by rw [cDiv, c4_1, cond_true, c11_2, cond_true, if_neg c16_3, c23_4, cond_true, c31_5, cond_true, if_neg c37_6, if_pos c44_7, if_neg c68_8, c82_9, cond_true, em, nI_clamp (by omega), dvE, ← hlo2, dvL_s ei, if_neg c130_11, if_pos c140_12, c156_13, cond_false] <;> rfl) (by show _ = cW K ad (cDiv S q r x y n).2 X; rw [cDiv, c4_1, cond_true, c11_2, cond_true, if_neg c16_3, c23_4, cond_true, c31_5, cond_true, if_neg c37_6, if_pos c44_7, if_neg c68_8, c82_9, cond_true, em, nI_clamp (by omega), dvE, ← hlo2, dvL_s ei, if_neg c130_11, if_pos c140_12, c156_13, cond_false] <;> rfl)
                            · skip
                              refine g_goto (tgt := 168) C dX1_divide_143 (by decide) ?_
                              refine g_aload_n (i := 0) C dX1_divide_168 rfl rfl ?_
                              refine g_get C dX1_divide_169 fl_X1_29 0 rfl rfl ?_
                              refine g_iload_n (i := 1) C dX1_divide_172 rfl rfl ?_
                              refine g_aald (b := (ad (5 + q.toNatClampNeg))) C dX1_divide_173 4 rfl (isSm_in c4_1) (soF_in c4_1) ?_
                              refine g_aload_n (i := 0) C dX1_divide_174 rfl rfl ?_
                              refine g_get C dX1_divide_175 fl_X1_34 0 rfl rfl ?_
                              refine g_eqw (cU_in (z := q.toNatClampNeg)) ?_
                              refine g_callVN (av := [.ref (ad 13)]) C dX1_divide_178 ln_X1_144 mf_X0_become (5 + q.toNatClampNeg) (cU_S (isSm_z c4_1)) rfl (kX0_become K ad (sF S (uF (uF (fC S) 8 r0) 9 q0)) X q.toNatClampNeg (fC (sF S (uF (uF (fC S) 8 r0) 9 q0)) q.toNatClampNeg) 8 (isSm_z c4_1) (by decide) (Ne.symm (isSm_n8 c4_1)) ) rfl rfl (Nat.le_of_ble_eq_true rfl) ⟨Nat.le_of_ble_eq_true rfl, Nat.le_of_ble_eq_true rfl⟩ ⟨Nat.zero_le _, Nat.zero_le _⟩ (fun _ => ?_)
                              refine g_aload_n (i := 0) C dX1_divide_181 rfl rfl ?_
                              refine g_get C dX1_divide_182 fl_X1_29 0 rfl rfl ?_
                              refine g_iload_n (i := 2) C dX1_divide_185 rfl rfl ?_
                              refine g_aald (b := (ad (5 + r.toNatClampNeg))) C dX1_divide_186 4 rfl (isSm_in c11_2) (soF_in c11_2) ?_
                              refine g_aload_n (i := 0) C dX1_divide_187 rfl rfl ?_
                              refine g_get C dX1_divide_188 fl_X1_38 0 rfl rfl ?_
                              refine g_eqw (cU_in (z := r.toNatClampNeg)) ?_
                              refine g_callVN (av := [.ref (ad 14)]) C dX1_divide_191 ln_X1_144 mf_X0_become (5 + r.toNatClampNeg) (cU_S (isSm_z c11_2)) rfl (kX0_become K ad (sF (sF S (uF (uF (fC S) 8 r0) 9 q0)) (uF (fC (sF S (uF (uF (fC S) 8 r0) 9 q0))) q.toNatClampNeg (cpyG (fC (sF S (uF (uF (fC S) 8 r0) 9 q0)) 8) (fC (sF S (uF (uF (fC S) 8 r0) 9 q0)) q.toNatClampNeg) 13))) X r.toNatClampNeg (fC (sF (sF S (uF (uF (fC S) 8 r0) 9 q0)) (uF (fC (sF S (uF (uF (fC S) 8 r0) 9 q0))) q.toNatClampNeg (cpyG (fC (sF S (uF (uF (fC S) 8 r0) 9 q0)) 8) (fC (sF S (uF (uF (fC S) 8 r0) 9 q0)) q.toNatClampNeg) 13))) r.toNatClampNeg) 9 (isSm_z c11_2) (by decide) (Ne.symm (isSm_n9 c11_2)) ) rfl rfl (Nat.le_of_ble_eq_true rfl) ⟨Nat.le_of_ble_eq_true rfl, Nat.le_of_ble_eq_true rfl⟩ ⟨Nat.zero_le _, Nat.zero_le _⟩ (fun _ => ?_)
                              refine g_iload C dX1_divide_194 rfl ?_
                              exact hR _ _ _ _ () dX1_divide_196 (by rw [cDiv, c4_1, cond_true, c11_2, cond_true, if_neg c16_3, c23_4, cond_true, c31_5, cond_true, if_neg c37_6, if_pos c44_7, if_neg c68_8, c82_9, cond_true, em, nI_clamp (by omega), dvE, ← hlo2, dvL_s ei, if_neg c130_11, if_neg c140_12] <;> rfl) (by show _ = cW K ad (cDiv S q r x y n).2 X; rw [cDiv, c4_1, cond_true, c11_2, cond_true, if_neg c16_3, c23_4, cond_true, c31_5, cond_true, if_neg c37_6, if_pos c44_7, if_neg c68_8, c82_9, cond_true, em, nI_clamp (by omega), dvE, ← hlo2, dvL_s ei, if_neg c130_11, if_neg c140_12] <;> rfl)
                    exact g_lvs [0, 1, 2, 3, 4, 5, 6, 7, 8] rfl (lo (m + 1) 0 _ _ (by omega) (by omega) rfl)
                  · skip
                    refine g_bipush (v := (-2)) C dX1_divide_85 (by decide) ?_
                    exact hR _ _ _ _ () dX1_divide_87 (by rw [cDiv, c4_1, cond_true, c11_2, cond_true, if_neg c16_3, c23_4, cond_true, c31_5, cond_true, if_neg c37_6, if_pos c44_7, if_neg c68_8, c82_9, cond_false] <;> rfl) (by show _ = cW K ad (cDiv S q r x y n).2 X; rw [cDiv, c4_1, cond_true, c11_2, cond_true, if_neg c16_3, c23_4, cond_true, c31_5, cond_true, if_neg c37_6, if_pos c44_7, if_neg c68_8, c82_9, cond_false] <;> rfl)
              · skip
                refine g_iconst (v := (-1)) C dX1_divide_47 (by decide) ?_
                exact hR _ _ _ _ () dX1_divide_48 (by rw [cDiv, c4_1, cond_true, c11_2, cond_true, if_neg c16_3, c23_4, cond_true, c31_5, cond_true, if_neg c37_6, if_neg c44_7] <;> rfl) (by show _ = cW K ad (cDiv S q r x y n).2 X; rw [cDiv, c4_1, cond_true, c11_2, cond_true, if_neg c16_3, c23_4, cond_true, c31_5, cond_true, if_neg c37_6, if_neg c44_7] <;> rfl)
