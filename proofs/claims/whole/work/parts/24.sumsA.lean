abbrev fC (S : CS) : Nat → Nat → Int64 := S.2.2.2.2.2
abbrev sF (S : CS) (F : Nat → Nat → Int64) : CS := (S.1, S.2.1, S.2.2.1, S.2.2.2.1, S.2.2.2.2.1, F)
def cU (K : KT) (ad : Nat → Nat) (S : CS) (z : Nat) (g : Nat → Int64) (X : va_W) : va_W := cW K ad (sF S (uF (fC S) z g)) X
theorem uF_s {F : Nat → Nat → Int64} {z : Nat} {g : Nat → Int64} : uF F z g z = g := if_pos rfl
theorem uF_n {F : Nat → Nat → Int64} {z y : Nat} {g : Nat → Int64} (h : y ≠ z) : uF F z g y = F y := if_neg h
theorem uF_id {F : Nat → Nat → Int64} {z : Nat} : uF F z (F z) = F := by
  funext y
  by_cases h : y = z
  · rw [h, uF_s]
  · rw [uF_n h]
theorem uF_uF {F : Nat → Nat → Int64} {z : Nat} {g h : Nat → Int64} : uF (uF F z g) z h = uF F z h := by
  funext y
  by_cases e : y = z
  · rw [e, uF_s, uF_s]
  · rw [uF_n e, uF_n e, uF_n e]
theorem uF_comm {F : Nat → Nat → Int64} {z y : Nat} {g h : Nat → Int64} (e : z ≠ y) : uF (uF F z g) y h = uF (uF F y h) z g := by
  funext w
  by_cases e1 : w = y
  · rw [e1, uF_s, uF_n (Ne.symm e), uF_s]
  · by_cases e2 : w = z
    · rw [e2, uF_s, uF_n e, uF_s]
    · rw [uF_n e1, uF_n e2, uF_n e2, uF_n e1]
theorem cU_in {K : KT} {ad : Nat → Nat} {S : CS} {z : Nat} {X : va_W} : cW K ad S X = cU K ad S z (fC S z) X := by
  unfold cU; rw [uF_id]
theorem cU_A {K : KT} {ad : Nat → Nat} {S : CS} {z : Nat} {g : Nat → Int64} {X : va_W} (h : z < 10) : (cU K ad S z g X)[15 + z]? = some (aJ K (ad (15 + z)) 13 g) := by
  unfold cU; rw [cW_A h]; show some (aJ K (ad (15 + z)) 13 (uF (fC S) z g z)) = _; rw [uF_s]
theorem cU_An {K : KT} {ad : Nat → Nat} {S : CS} {z y : Nat} {g : Nat → Int64} {X : va_W} (h : y < 10) (hn : y ≠ z) : (cU K ad S z g X)[15 + y]? = some (aJ K (ad (15 + y)) 13 (fC S y)) := by
  unfold cU; rw [cW_A h]; show some (aJ K (ad (15 + y)) 13 (uF (fC S) z g y)) = _; rw [uF_n hn]
theorem cU_S {K : KT} {ad : Nat → Nat} {S : CS} {z y : Nat} {g : Nat → Int64} {X : va_W} (h : y < 10) : (cU K ad S z g X)[5 + y]? = some (oB (ad (5 + y)) 0 [.ref (ad (15 + y))]) := cW_S h
theorem cU_set {K : KT} {ad : Nat → Nat} {S : CS} {z : Nat} {g g2 : Nat → Int64} {X : va_W} (h : z < 10) : (cU K ad S z g X).set (15 + z) (aJ K (ad (15 + z)) 13 g2) = cU K ad S z g2 X := by
  unfold cU; rw [cW_set h]; show cW K ad (sF S (uF (uF (fC S) z g) z g2)) X = _; rw [uF_uF]
theorem vU_i {g : Nat → Int64} {i : Nat} {v : Int64} (h : i < 2 ^ 31) : vp_updL g (nI i).toNatClampNeg v = vp_updL g i v := by rw [nI_clamp h]
def cntG (g : Nat → Int64) : Nat → Int32
  | 0 => 0
  | i + 1 => if g i = 0 then cntG g i else cntG g i + Int32.ofInt 1
def sltG (g : Nat → Int64) : Nat → Int32 → Option Nat
  | 0, _ => none
  | k + 1, a => if g k = 0 then sltG g k a else if a = 0 then some k else sltG g k (a + Int32.ofInt (-1))
def sltR (g : Nat → Int64) (a : Int32) : Int32 := match sltG g 13 a with
  | none => -1
  | some k => nI k
def cpyG (h g : Nat → Int64) (i : Nat) : Nat → Int64 := fun k => if k < i then h k else g k
theorem cpy_0 {h g : Nat → Int64} : g = cpyG h g 0 := by
  funext k; exact (if_neg (Nat.not_lt_zero k)).symm
theorem cpy_s {h g : Nat → Int64} {i : Nat} : vp_updL (cpyG h g i) i (h i) = cpyG h g (i + 1) := by
  funext k
  unfold vp_updL cpyG
  by_cases h1 : k = i
  · rw [if_pos h1, if_pos (by omega), h1]
  · rw [if_neg h1]
    by_cases h2 : k < i
    · rw [if_pos h2, if_pos (by omega)]
    · rw [if_neg h2, if_neg (by omega)]
def putF (g : Nat → Int64) (e : Int32) (f : Int64) : Bool × (Nat → Int64) := bif isEx e then (if f = 1152921504606846976 then (false, g) else if facO (g (e + 6).toNatClampNeg + f) 20 = 1152921504606846976 then (false, g) else (true, vp_updL g (e + 6).toNatClampNeg (facO (g (e + 6).toNatClampNeg + f) 20))) else (false, g)
def ppF (h : Nat → Int64) (e : Int32) (f : Int64) : Nat → (Nat → Int64) → Bool × (Nat → Int64)
  | 0, g => (true, g)
  | k + 1, g => if h k = 0 then ppF h e f k g else bif (putF g (e + nI k - 6) (facP f (h k))).1 then ppF h e f k (putF g (e + nI k - 6) (facP f (h k))).2 else (false, (putF g (e + nI k - 6) (facP f (h k))).2)
def btF (h : Nat → Int64) (less : Bool) : Nat → (Nat → Int64) → Bool × (Nat → Int64)
  | 0, g => (true, g)
  | k + 1, g => if h k = 0 then btF h less k g else bif (putF g (nI k - 6) (bif less then -(h k) else h k)).1 then btF h less k (putF g (nI k - 6) (bif less then -(h k) else h k)).2 else (false, (putF g (nI k - 6) (bif less then -(h k) else h k)).2)
def bpF (h y : Nat → Int64) : Nat → (Nat → Int64) → Bool × (Nat → Int64)
  | 0, g => (true, g)
  | k + 1, g => if h k = 0 then bpF h y k g else bif (ppF y (nI k - 6) (h k) 13 g).1 then bpF h y k (ppF y (nI k - 6) (h k) 13 g).2 else (false, (ppF y (nI k - 6) (h k) 13 g).2)
theorem isEx_in {e : Int32} (h : isEx e = true) : vp_in (e + 6) 13 := by
  simp only [isEx, Bool.and_eq_true, Bool.not_eq_true', decide_eq_false_iff_not] at h
  have h1 := h.1
  have h2 := h.2
  rw [Int32.lt_iff_toInt_lt] at h1 h2
  have e0 : (-6 : Int32).toInt = -6 := rfl
  have e6 : (6 : Int32).toInt = 6 := rfl
  rw [vp_in_iff, Int32.toInt_add, e6]
  rw [Int.bmod_def]
  omega
set_option maxHeartbeats 600000 in
set_option maxRecDepth 100000 in
theorem kX0_countTerms (K : KT) (ad : Nat → Nat) (S : CS) (X : va_W) (z : Nat) (g : Nat → Int64)  (hz : z < 10) : ∀ lau : Launch, Con lau yX0_countTerms cX0_countTerms 3 (some .int) 0 0 K (cU K ad S z g X) (fun _ : Unit => cU K ad S z g X) [.ref (ad (5 + z))] (some (.int (cntG g 13))) := by
  refine conI (by decide) (Nat.le_of_ble_eq_true rfl) (fun E C hR => ?_)
  show G E K 0 0 (cU K ad S z g X) [(0, .ref (ad (5 + z)))] 0 []
  refine g_iconst (v := 0) C dX0_countTerms_0 (by decide) ?_
  refine g_istore_n (i := 1) (lv2 := [(0, .ref (ad (5 + z))), (1, .int 0)]) C dX0_countTerms_1 rfl (by decide) rfl ?_
  refine g_iconst (v := 0) C dX0_countTerms_2 (by decide) ?_
  refine g_istore_n (i := 2) (lv2 := [(0, .ref (ad (5 + z))), (1, .int 0), (2, .int 0)]) C dX0_countTerms_3 rfl (by decide) rfl ?_
  have lo : ∀ (fuel : Nat) (i : Nat) (a : Int32), i ≤ 13 → 13 < i + fuel → a = cntG g i → G E K 0 0 (cU K ad S z g X) [(0, .ref (ad (5 + z))), (1, .int a), (2, .int (nI i))] 4 [] := by
    intro fuel
    induction fuel with
    | zero =>
      intro i a hlo0 hlo1 hlo2
      omega
    | succ fuel ihlo =>
      intro i a hlo0 hlo1 hlo2
      refine g_iload_n (i := 2) C dX0_countTerms_4 rfl rfl ?_
      refine g_bipush (v := 13) C dX0_countTerms_5 (by decide) ?_
      refine g_icmp_ge (tgt := 30) C dX0_countTerms_7 (by decide) (fun c7_1 => ?_) (fun c7_1 => ?_)
      · skip
        have ei : i = 13 := by have := nle (a := 13) c7_1 (by decide) (by omega); omega
        refine g_iload_n (i := 1) C dX0_countTerms_30 rfl rfl ?_
        exact hR _ _ _ _ () dX0_countTerms_31 (by rw [hlo2, ei]) (rfl)
      · skip
        have ei : i < 13 := nlt (a := 13) c7_1 (by decide) (by omega)
        refine g_aload_n (i := 0) C dX0_countTerms_10 rfl rfl ?_
        refine g_get C dX0_countTerms_11 fl_X0_9 (5 + z) (cU_S hz) rfl ?_
        refine g_iload_n (i := 2) C dX0_countTerms_14 rfl rfl ?_
        refine g_lald C dX0_countTerms_15 (15 + z) (cU_A hz) (vp_in_nI (by omega) (by decide)) ?_
        refine g_eql (congrArg g (nI_clamp (by omega))) ?_
        refine g_lconst (v := 0) C dX0_countTerms_16 (by decide) ?_
        refine g_lcmp_eq (tgt := 24) C dX0_countTerms_17 dX0_countTerms_18 (by decide) (fun c17_2 => ?_) (fun c17_2 => ?_)
        · skip
          refine g_iinc (v := nI (i + 1)) (lv2 := [(0, .ref (ad (5 + z))), (1, .int a), (2, .int (nI (i + 1)))]) C dX0_countTerms_24 rfl (nI_inc i) (by decide) rfl ?_
          refine g_goto (tgt := 4) C dX0_countTerms_27 (by decide) ?_
          exact g_lvs [0, 1, 2] rfl (ihlo (i + 1) _ (by omega) (by omega) (by rw [cntG, if_pos c17_2, hlo2]))
        · skip
          refine g_iinc (v := a + Int32.ofInt 1) (lv2 := [(0, .ref (ad (5 + z))), (1, .int (a + Int32.ofInt 1)), (2, .int (nI i))]) C dX0_countTerms_21 rfl rfl (by decide) rfl ?_
          refine g_iinc (v := nI (i + 1)) (lv2 := [(0, .ref (ad (5 + z))), (1, .int (a + Int32.ofInt 1)), (2, .int (nI (i + 1)))]) C dX0_countTerms_24 rfl (nI_inc i) (by decide) rfl ?_
          refine g_goto (tgt := 4) C dX0_countTerms_27 (by decide) ?_
          exact g_lvs [0, 1, 2] rfl (ihlo (i + 1) _ (by omega) (by omega) (by rw [cntG, if_neg c17_2, hlo2]))
  exact g_lvs [0, 1, 2] rfl (lo 14 0 0 (by omega) (by omega) rfl)

set_option maxHeartbeats 600000 in
set_option maxRecDepth 100000 in
theorem kX0_clear (K : KT) (ad : Nat → Nat) (S : CS) (X : va_W) (z : Nat) (g : Nat → Int64)  (hz : z < 10) : ∀ lau : Launch, Con lau yX0_clear cX0_clear 2 none 0 0 K (cU K ad S z g X) (fun _ : Unit => cU K ad S z (cpyG (fun _ => 0) g 13) X) [.ref (ad (5 + z))] none := by
  refine conV (by decide) (Nat.le_of_ble_eq_true rfl) (fun E C hR => ?_)
  show G E K 0 0 (cU K ad S z g X) [(0, .ref (ad (5 + z)))] 0 []
  refine g_iconst (v := 0) C dX0_clear_0 (by decide) ?_
  refine g_istore_n (i := 1) (lv2 := [(0, .ref (ad (5 + z))), (1, .int 0)]) C dX0_clear_1 rfl (by decide) rfl ?_
  have lo : ∀ (fuel : Nat) (i : Nat) (q : Nat → Int64), i ≤ 13 → 13 < i + fuel → q = cpyG (fun _ => 0) g i → G E K 0 0 (cU K ad S z q X) [(0, .ref (ad (5 + z))), (1, .int (nI i))] 2 [] := by
    intro fuel
    induction fuel with
    | zero =>
      intro i q hlo0 hlo1 hlo2
      omega
    | succ fuel ihlo =>
      intro i q hlo0 hlo1 hlo2
      refine g_iload_n (i := 1) C dX0_clear_2 rfl rfl ?_
      refine g_bipush (v := 13) C dX0_clear_3 (by decide) ?_
      refine g_icmp_ge (tgt := 21) C dX0_clear_5 (by decide) (fun c5_1 => ?_) (fun c5_1 => ?_)
      · skip
        have ei : i = 13 := by have := nle (a := 13) c5_1 (by decide) (by omega); omega
        exact hR _ _ _ () dX0_clear_21 (by rw [hlo2, ei])
      · skip
        have ei : i < 13 := nlt (a := 13) c5_1 (by decide) (by omega)
        refine g_aload_n (i := 0) C dX0_clear_8 rfl rfl ?_
        refine g_get C dX0_clear_9 fl_X0_9 (5 + z) (cU_S hz) rfl ?_
        refine g_iload_n (i := 1) C dX0_clear_12 rfl rfl ?_
        refine g_lconst (v := 0) C dX0_clear_13 (by decide) ?_
        refine g_last (Wd2 := cU K ad S z (vp_updL q (nI i).toNatClampNeg 0) X) C dX0_clear_14 (15 + z) (cU_A hz) (vp_in_nI (by omega) (by decide)) (cU_set hz) ?_
        refine g_iinc (v := nI (i + 1)) (lv2 := [(0, .ref (ad (5 + z))), (1, .int (nI (i + 1)))]) C dX0_clear_15 rfl (nI_inc i) (by decide) rfl ?_
        refine g_goto (tgt := 2) C dX0_clear_18 (by decide) ?_
        exact g_lvs [0, 1] rfl (ihlo (i + 1) _ (by omega) (by omega) (by rw [nI_clamp (by omega), hlo2]; exact cpy_s (h := fun _ => 0)))
  exact g_lvs [0, 1] rfl (lo 14 0 g (by omega) (by omega) cpy_0)

set_option maxHeartbeats 600000 in
set_option maxRecDepth 100000 in
theorem kX0_become (K : KT) (ad : Nat → Nat) (S : CS) (X : va_W) (z : Nat) (g : Nat → Int64) (y : Nat) (hz : z < 10) (hy : y < 10) (ny : y ≠ z) : ∀ lau : Launch, Con lau yX0_become cX0_become 3 none 0 0 K (cU K ad S z g X) (fun _ : Unit => cU K ad S z (cpyG (fC S y) g 13) X) [.ref (ad (5 + z)), .ref (ad (5 + y))] none := by
  refine conV (by decide) (Nat.le_of_ble_eq_true rfl) (fun E C hR => ?_)
  show G E K 0 0 (cU K ad S z g X) [(0, .ref (ad (5 + z))), (1, .ref (ad (5 + y)))] 0 []
  refine g_iconst (v := 0) C dX0_become_0 (by decide) ?_
  refine g_istore_n (i := 2) (lv2 := [(0, .ref (ad (5 + z))), (1, .ref (ad (5 + y))), (2, .int 0)]) C dX0_become_1 rfl (by decide) rfl ?_
  have lo : ∀ (fuel : Nat) (i : Nat) (q : Nat → Int64), i ≤ 13 → 13 < i + fuel → q = cpyG (fC S y) g i → G E K 0 0 (cU K ad S z q X) [(0, .ref (ad (5 + z))), (1, .ref (ad (5 + y))), (2, .int (nI i))] 2 [] := by
    intro fuel
    induction fuel with
    | zero =>
      intro i q hlo0 hlo1 hlo2
      omega
    | succ fuel ihlo =>
      intro i q hlo0 hlo1 hlo2
      refine g_iload_n (i := 2) C dX0_become_2 rfl rfl ?_
      refine g_bipush (v := 13) C dX0_become_3 (by decide) ?_
      refine g_icmp_ge (tgt := 26) C dX0_become_5 (by decide) (fun c5_1 => ?_) (fun c5_1 => ?_)
      · skip
        have ei : i = 13 := by have := nle (a := 13) c5_1 (by decide) (by omega); omega
        exact hR _ _ _ () dX0_become_26 (by rw [hlo2, ei])
      · skip
        have ei : i < 13 := nlt (a := 13) c5_1 (by decide) (by omega)
        refine g_aload_n (i := 0) C dX0_become_8 rfl rfl ?_
        refine g_get C dX0_become_9 fl_X0_9 (5 + z) (cU_S hz) rfl ?_
        refine g_iload_n (i := 2) C dX0_become_12 rfl rfl ?_
        refine g_aload_n (i := 1) C dX0_become_13 rfl rfl ?_
        refine g_get C dX0_become_14 fl_X0_9 (5 + y) (cU_S hy) rfl ?_
        refine g_iload_n (i := 2) C dX0_become_17 rfl rfl ?_
        refine g_lald C dX0_become_18 (15 + y) (cU_An hy ny) (vp_in_nI (by omega) (by decide)) ?_
        refine g_eql (congrArg (fC S y) (nI_clamp (by omega))) ?_
        refine g_last (Wd2 := cU K ad S z (vp_updL q (nI i).toNatClampNeg ((fC S y) i)) X) C dX0_become_19 (15 + z) (cU_A hz) (vp_in_nI (by omega) (by decide)) (cU_set hz) ?_
        refine g_iinc (v := nI (i + 1)) (lv2 := [(0, .ref (ad (5 + z))), (1, .ref (ad (5 + y))), (2, .int (nI (i + 1)))]) C dX0_become_20 rfl (nI_inc i) (by decide) rfl ?_
        refine g_goto (tgt := 2) C dX0_become_23 (by decide) ?_
        exact g_lvs [0, 1, 2] rfl (ihlo (i + 1) _ (by omega) (by omega) (by rw [nI_clamp (by omega), hlo2]; exact cpy_s))
  exact g_lvs [0, 1, 2] rfl (lo 14 0 g (by omega) (by omega) cpy_0)

set_option maxHeartbeats 600000 in
set_option maxRecDepth 100000 in
theorem kX0_slotOfTerm (K : KT) (ad : Nat → Nat) (S : CS) (X : va_W) (z : Nat) (g : Nat → Int64) (a0 : Int32) (hz : z < 10) : ∀ lau : Launch, Con lau yX0_slotOfTerm cX0_slotOfTerm 4 (some .int) 0 0 K (cU K ad S z g X) (fun _ : Unit => cU K ad S z g X) [.ref (ad (5 + z)), .int a0] (some (.int (sltR g a0))) := by
  refine conI (by decide) (Nat.le_of_ble_eq_true rfl) (fun E C hR => ?_)
  show G E K 0 0 (cU K ad S z g X) [(0, .ref (ad (5 + z))), (1, .int a0)] 0 []
  refine g_iload_n (i := 1) C dX0_slotOfTerm_0 rfl rfl ?_
  refine g_istore_n (i := 2) (lv2 := [(0, .ref (ad (5 + z))), (1, .int a0), (2, .int a0)]) C dX0_slotOfTerm_1 rfl (by decide) rfl ?_
  refine g_bipush (v := 12) C dX0_slotOfTerm_2 (by decide) ?_
  refine g_istore_n (i := 3) (lv2 := [(0, .ref (ad (5 + z))), (1, .int a0), (2, .int a0), (3, .int 12)]) C dX0_slotOfTerm_4 rfl (by decide) rfl ?_
  have lo : ∀ (fuel : Nat) (j : Nat) (v : Int32) (a : Int32), j ≤ 13 → j < fuel → v = nI j - 1 → sltG g j a = sltG g 13 a0 → G E K 0 0 (cU K ad S z g X) [(0, .ref (ad (5 + z))), (1, .int a0), (2, .int a), (3, .int v)] 5 [] := by
    intro fuel
    induction fuel with
    | zero =>
      intro j v a hlo0 hlo1 hlo2 hlo3
      omega
    | succ fuel ihlo =>
      intro j v a hlo0 hlo1 hlo2 hlo3
      refine g_iload_n (i := 3) C dX0_slotOfTerm_5 rfl rfl ?_
      refine g_if_lt (tgt := 35) C dX0_slotOfTerm_6 (by decide) (fun c6_1 => ?_) (fun c6_1 => ?_)
      · skip
        have ej : j = 0 := decn (by rw [← hlo2]; exact c6_1) (by omega)
        subst ej
        refine g_iconst (v := (-1)) C dX0_slotOfTerm_35 (by decide) ?_
        exact hR _ _ _ _ () dX0_slotOfTerm_36 (by rw [sltR, ← hlo3]; rfl) (rfl)
      · skip
        obtain ⟨j2, rfl⟩ := dec0 (j := j) (by rw [← hlo2]; exact c6_1)
        rw [nI_pred] at hlo2
        subst hlo2
        refine g_aload_n (i := 0) C dX0_slotOfTerm_9 rfl rfl ?_
        refine g_get C dX0_slotOfTerm_10 fl_X0_9 (5 + z) (cU_S hz) rfl ?_
        refine g_iload_n (i := 3) C dX0_slotOfTerm_13 rfl rfl ?_
        refine g_lald C dX0_slotOfTerm_14 (15 + z) (cU_A hz) (vp_in_nI (by omega) (by decide)) ?_
        refine g_eql (congrArg g (nI_clamp (by omega))) ?_
        refine g_lconst (v := 0) C dX0_slotOfTerm_15 (by decide) ?_
        refine g_lcmp_eq (tgt := 29) C dX0_slotOfTerm_16 dX0_slotOfTerm_17 (by decide) (fun c16_2 => ?_) (fun c16_2 => ?_)
        · skip
          refine g_iinc (v := (nI j2) + Int32.ofInt (-1)) (lv2 := [(0, .ref (ad (5 + z))), (1, .int a0), (2, .int a), (3, .int ((nI j2) + Int32.ofInt (-1)))]) C dX0_slotOfTerm_29 rfl rfl (by decide) rfl ?_
          refine g_goto (tgt := 5) C dX0_slotOfTerm_32 (by decide) ?_
          exact g_lvs [0, 1, 2, 3] rfl (ihlo j2 _ _ (by omega) (by omega) (dec1 j2) (by rw [← hlo3, sltG, if_pos c16_2]))
        · skip
          refine g_iload_n (i := 2) C dX0_slotOfTerm_20 rfl rfl ?_
          refine g_if_ne (tgt := 26) C dX0_slotOfTerm_21 (by decide) (fun c21_3 => ?_) (fun c21_3 => ?_)
          · skip
            refine g_iinc (v := a + Int32.ofInt (-1)) (lv2 := [(0, .ref (ad (5 + z))), (1, .int a0), (2, .int (a + Int32.ofInt (-1))), (3, .int (nI j2))]) C dX0_slotOfTerm_26 rfl rfl (by decide) rfl ?_
            refine g_iinc (v := (nI j2) + Int32.ofInt (-1)) (lv2 := [(0, .ref (ad (5 + z))), (1, .int a0), (2, .int (a + Int32.ofInt (-1))), (3, .int ((nI j2) + Int32.ofInt (-1)))]) C dX0_slotOfTerm_29 rfl rfl (by decide) rfl ?_
            refine g_goto (tgt := 5) C dX0_slotOfTerm_32 (by decide) ?_
            exact g_lvs [0, 1, 2, 3] rfl (ihlo j2 _ _ (by omega) (by omega) (dec1 j2) (by rw [← hlo3, sltG, if_neg c16_2, if_neg c21_3]))
          · skip
            refine g_iload_n (i := 3) C dX0_slotOfTerm_24 rfl rfl ?_
            exact hR _ _ _ _ () dX0_slotOfTerm_25 (by rw [sltR, ← hlo3, sltG, if_neg c16_2, if_pos c21_3]) (rfl)
  exact g_lvs [0, 1, 2, 3] rfl (lo 14 13 12 a0 (by omega) (by omega) rfl rfl)

set_option maxHeartbeats 600000 in
set_option maxRecDepth 100000 in
theorem kX0_put (K : KT) (ad : Nat → Nat) (S : CS) (X : va_W) (z : Nat) (g : Nat → Int64) (e : Int32) (f : Int64) (hz : z < 10) : ∀ lau : Launch, Con lau yX0_put cX0_put 7 (some .boolean) 4 89 K (cU K ad S z g X) (fun _ : Unit => cU K ad S z ((putF g e f).2) X) [.ref (ad (5 + z)), .int e, .long f] (some (.int (bz (putF g e f).1))) := by
  refine conZ (by decide) (Nat.le_of_ble_eq_true rfl) (fun E C hR => ?_)
  show G E K 0 0 (cU K ad S z g X) [(0, .ref (ad (5 + z))), (1, .int e), (2, .long f)] 0 []
  refine g_iload_n (i := 1) C dX0_put_0 rfl rfl ?_
  refine g_callSN (av := [.int e]) C dX0_put_1 ln_X0_15 mf_X1_isExponent (kX1_isExponent K (cU K ad S z g X) e) rfl rfl (Nat.le_of_ble_eq_true rfl) ⟨Nat.le_of_ble_eq_true rfl, Nat.le_of_ble_eq_true rfl⟩ ⟨Nat.zero_le _, Nat.zero_le _⟩ (fun _ => ?_)
  refine g_bz_eq (tgt := 15) C dX0_put_4 (by decide) (fun c4_1 => ?_) (fun c4_1 => ?_)
  · skip
    refine g_iconst (v := 0) C dX0_put_15 (by decide) ?_
    exact hR _ _ _ _ () dX0_put_16 (by rw [putF, c4_1, cond_false] <;> rfl) (by show _ = cU K ad S z (putF g e f).2 X; rw [putF, c4_1, cond_false] <;> rfl)
  · skip
    refine g_lload_n (i := 2) C dX0_put_7 rfl rfl ?_
    refine g_ldc2 (v := 1152921504606846976) C dX0_put_8 kc_X0_19 ?_
    refine g_lcmp_ne (tgt := 17) C dX0_put_11 dX0_put_12 (by decide) (fun c11_2 => ?_) (fun c11_2 => ?_)
    · skip
      refine g_iload_n (i := 1) C dX0_put_17 rfl rfl ?_
      refine g_bipush (v := 6) C dX0_put_18 (by decide) ?_
      refine g_iadd C dX0_put_20 ?_
      refine g_istore (lv2 := [(0, .ref (ad (5 + z))), (1, .int e), (2, .long f), (4, .int (e + 6))]) C dX0_put_21 (by decide) rfl ?_
      refine g_aload_n (i := 0) C dX0_put_23 rfl rfl ?_
      refine g_get C dX0_put_24 fl_X0_9 (5 + z) (cU_S hz) rfl ?_
      refine g_iload C dX0_put_27 rfl ?_
      refine g_lald C dX0_put_29 (15 + z) (cU_A hz) (isEx_in c4_1) ?_
      refine g_lload_n (i := 2) C dX0_put_30 rfl rfl ?_
      refine g_ladd C dX0_put_31 ?_
      refine g_bipush (v := 20) C dX0_put_32 (by decide) ?_
      refine g_callSN (av := [.long ((g (e + 6).toNatClampNeg) + f), .int 20]) C dX0_put_34 ln_X0_21 mf_X1_factorOf (kX1_factorOf K (cU K ad S z g X) ((g (e + 6).toNatClampNeg) + f) 20) rfl rfl (Nat.le_of_ble_eq_true rfl) ⟨Nat.le_of_ble_eq_true rfl, Nat.le_of_ble_eq_true rfl⟩ ⟨Nat.zero_le _, Nat.zero_le _⟩ (fun _ => ?_)
      refine g_lstore (lv2 := [(0, .ref (ad (5 + z))), (1, .int e), (2, .long f), (4, .int (e + 6)), (5, .long (facO ((g (e + 6).toNatClampNeg) + f) 20))]) C dX0_put_37 (by decide) rfl ?_
      refine g_lload C dX0_put_39 rfl ?_
      refine g_ldc2 (v := 1152921504606846976) C dX0_put_41 kc_X0_19 ?_
      refine g_lcmp_ne (tgt := 50) C dX0_put_44 dX0_put_45 (by decide) (fun c44_3 => ?_) (fun c44_3 => ?_)
      · skip
        refine g_aload_n (i := 0) C dX0_put_50 rfl rfl ?_
        refine g_get C dX0_put_51 fl_X0_9 (5 + z) (cU_S hz) rfl ?_
        refine g_iload C dX0_put_54 rfl ?_
        refine g_lload C dX0_put_56 rfl ?_
        refine g_last (Wd2 := cU K ad S z (vp_updL g (e + 6).toNatClampNeg (facO ((g (e + 6).toNatClampNeg) + f) 20)) X) C dX0_put_58 (15 + z) (cU_A hz) (isEx_in c4_1) (cU_set hz) ?_
        refine g_iconst (v := 1) C dX0_put_59 (by decide) ?_
        exact hR _ _ _ _ () dX0_put_60 (by rw [putF, c4_1, cond_true, if_neg c11_2, if_neg c44_3] <;> rfl) (by show _ = cU K ad S z (putF g e f).2 X; rw [putF, c4_1, cond_true, if_neg c11_2, if_neg c44_3] <;> rfl)
      · skip
        refine g_iconst (v := 0) C dX0_put_48 (by decide) ?_
        exact hR _ _ _ _ () dX0_put_49 (by rw [putF, c4_1, cond_true, if_neg c11_2, if_pos c44_3] <;> rfl) (by show _ = cU K ad S z (putF g e f).2 X; rw [putF, c4_1, cond_true, if_neg c11_2, if_pos c44_3] <;> rfl)
    · skip
      refine g_iconst (v := 0) C dX0_put_15 (by decide) ?_
      exact hR _ _ _ _ () dX0_put_16 (by rw [putF, c4_1, cond_true, if_pos c11_2] <;> rfl) (by show _ = cU K ad S z (putF g e f).2 X; rw [putF, c4_1, cond_true, if_pos c11_2] <;> rfl)

set_option maxHeartbeats 600000 in
set_option maxRecDepth 100000 in
theorem kX0_putProducts (K : KT) (ad : Nat → Nat) (S : CS) (X : va_W) (z : Nat) (g : Nat → Int64) (e : Int32) (f : Int64) (y : Nat) (hz : z < 10) (hy : y < 10) (ny : y ≠ z) : ∀ lau : Launch, Con lau yX0_putProducts cX0_putProducts 8 (some .boolean) 5 115 K (cU K ad S z g X) (fun _ : Unit => cU K ad S z ((ppF (fC S y) e f 13 g).2) X) [.ref (ad (5 + z)), .int e, .long f, .ref (ad (5 + y))] (some (.int (bz (ppF (fC S y) e f 13 g).1))) := by
  refine conZ (by decide) (Nat.le_of_ble_eq_true rfl) (fun E C hR => ?_)
  show G E K 0 0 (cU K ad S z g X) [(0, .ref (ad (5 + z))), (1, .int e), (2, .long f), (4, .ref (ad (5 + y)))] 0 []
  refine g_bipush (v := 12) C dX0_putProducts_0 (by decide) ?_
  refine g_istore (lv2 := [(0, .ref (ad (5 + z))), (1, .int e), (2, .long f), (4, .ref (ad (5 + y))), (5, .int 12)]) C dX0_putProducts_2 (by decide) rfl ?_
  have lo : ∀ (fuel : Nat) (j : Nat) (v : Int32) (q : Nat → Int64), j ≤ 13 → j < fuel → v = nI j - 1 → ppF (fC S y) e f j q = ppF (fC S y) e f 13 g → G E K 0 0 (cU K ad S z q X) [(0, .ref (ad (5 + z))), (1, .int e), (2, .long f), (4, .ref (ad (5 + y))), (5, .int v)] 4 [] := by
    intro fuel
    induction fuel with
    | zero =>
      intro j v q hlo0 hlo1 hlo2 hlo3
      omega
    | succ fuel ihlo =>
      intro j v q hlo0 hlo1 hlo2 hlo3
      refine g_iload C dX0_putProducts_4 rfl ?_
      refine g_if_lt (tgt := 54) C dX0_putProducts_6 (by decide) (fun c6_1 => ?_) (fun c6_1 => ?_)
      · skip
        have ej : j = 0 := decn (by rw [← hlo2]; exact c6_1) (by omega)
        subst ej
        refine g_iconst (v := 1) C dX0_putProducts_54 (by decide) ?_
        exact hR _ _ _ _ () dX0_putProducts_55 (by rw [← hlo3] <;> rfl) (by show _ = cU K ad S z (ppF (fC S y) e f 13 g).2 X; rw [← hlo3] <;> rfl)
      · skip
        obtain ⟨j2, rfl⟩ := dec0 (j := j) (by rw [← hlo2]; exact c6_1)
        rw [nI_pred] at hlo2
        subst hlo2
        refine g_aload C dX0_putProducts_9 rfl ?_
        refine g_get C dX0_putProducts_11 fl_X0_9 (5 + y) (cU_S hy) rfl ?_
        refine g_iload C dX0_putProducts_14 rfl ?_
        refine g_lald C dX0_putProducts_16 (15 + y) (cU_An hy ny) (vp_in_nI (by omega) (by decide)) ?_
        refine g_eql (congrArg (fC S y) (nI_clamp (by omega))) ?_
        refine g_lstore (lv2 := [(0, .ref (ad (5 + z))), (1, .int e), (2, .long f), (4, .ref (ad (5 + y))), (5, .int (nI j2)), (6, .long ((fC S y) j2))]) C dX0_putProducts_17 (by decide) rfl ?_
        refine g_lload C dX0_putProducts_19 rfl ?_
        refine g_lconst (v := 0) C dX0_putProducts_21 (by decide) ?_
        refine g_lcmp_eq (tgt := 48) C dX0_putProducts_22 dX0_putProducts_23 (by decide) (fun c22_2 => ?_) (fun c22_2 => ?_)
        · skip
          refine g_iinc (v := (nI j2) + Int32.ofInt (-1)) (lv2 := [(0, .ref (ad (5 + z))), (1, .int e), (2, .long f), (4, .ref (ad (5 + y))), (5, .int ((nI j2) + Int32.ofInt (-1))), (6, .long ((fC S y) j2))]) C dX0_putProducts_48 rfl rfl (by decide) rfl ?_
          refine g_goto (tgt := 4) C dX0_putProducts_51 (by decide) ?_
          exact g_lvs [0, 1, 2, 3, 4] rfl (ihlo j2 _ _ (by omega) (by omega) (dec1 j2) (by rw [← hlo3, ppF, if_pos c22_2]))
        · skip
          refine g_aload_n (i := 0) C dX0_putProducts_26 rfl rfl ?_
          refine g_iload_n (i := 1) C dX0_putProducts_27 rfl rfl ?_
          refine g_iload C dX0_putProducts_28 rfl ?_
          refine g_iadd C dX0_putProducts_30 ?_
          refine g_bipush (v := 6) C dX0_putProducts_31 (by decide) ?_
          refine g_isub C dX0_putProducts_33 ?_
          refine g_lload_n (i := 2) C dX0_putProducts_34 rfl rfl ?_
          refine g_lload C dX0_putProducts_35 rfl ?_
          refine g_callSN (av := [.long f, .long ((fC S y) j2)]) C dX0_putProducts_37 ln_X0_25 mf_X1_factorProduct (kX1_factorProduct K (cU K ad S z q X) f ((fC S y) j2)) rfl rfl (Nat.le_of_ble_eq_true rfl) ⟨Nat.le_of_ble_eq_true rfl, Nat.le_of_ble_eq_true rfl⟩ ⟨Nat.zero_le _, Nat.zero_le _⟩ (fun _ => ?_)
          refine g_callV (av := [.int ((e + (nI j2)) - 6), .long (facP f ((fC S y) j2))]) C dX0_putProducts_40 ln_X0_29 mf_X0_put (5 + z) (cU_S hz) rfl (kX0_put K ad S X z q ((e + (nI j2)) - 6) (facP f ((fC S y) j2)) hz  ) rfl rfl (Nat.le_of_ble_eq_true rfl) ⟨Nat.le_of_ble_eq_true rfl, Nat.le_of_ble_eq_true rfl⟩ ⟨Nat.zero_le _, Nat.zero_le _⟩ (fun _ => ?_)
          refine g_bz_ne (tgt := 48) C dX0_putProducts_43 (by decide) (fun c43_3 => ?_) (fun c43_3 => ?_)
          · skip
            refine g_iinc (v := (nI j2) + Int32.ofInt (-1)) (lv2 := [(0, .ref (ad (5 + z))), (1, .int e), (2, .long f), (4, .ref (ad (5 + y))), (5, .int ((nI j2) + Int32.ofInt (-1))), (6, .long ((fC S y) j2))]) C dX0_putProducts_48 rfl rfl (by decide) rfl ?_
            refine g_goto (tgt := 4) C dX0_putProducts_51 (by decide) ?_
            exact g_lvs [0, 1, 2, 3, 4] rfl (ihlo j2 _ _ (by omega) (by omega) (dec1 j2) (by rw [← hlo3, ppF, if_neg c22_2, c43_3, cond_true]))
          · skip
            refine g_iconst (v := 0) C dX0_putProducts_46 (by decide) ?_
            exact hR _ _ _ _ () dX0_putProducts_47 (by rw [← hlo3, ppF, if_neg c22_2, c43_3, cond_false] <;> rfl) (by show _ = cU K ad S z (ppF (fC S y) e f 13 g).2 X; rw [← hlo3, ppF, if_neg c22_2, c43_3, cond_false] <;> rfl)
  exact g_lvs [0, 1, 2, 3, 4] rfl (lo 14 13 12 g (by omega) (by omega) rfl rfl)

set_option maxHeartbeats 600000 in
set_option maxRecDepth 100000 in
theorem kX0_becomeTogether (K : KT) (ad : Nat → Nat) (S : CS) (X : va_W) (z : Nat) (g : Nat → Int64) (x : Nat) (y : Nat) (less : Bool) (hz : z < 10) (hx : x < 10) (nx : x ≠ z) (hy : y < 10) (ny : y ≠ z) : ∀ lau : Launch, Con lau yX0_becomeTogether cX0_becomeTogether 7 (some .boolean) 5 115 K (cU K ad S z g X) (fun _ : Unit => cU K ad S z ((btF (fC S y) less 13 (cpyG (fC S x) g 13)).2) X) [.ref (ad (5 + z)), .ref (ad (5 + x)), .ref (ad (5 + y)), .int (bz less)] (some (.int (bz (btF (fC S y) less 13 (cpyG (fC S x) g 13)).1))) := by
  refine conZ (by decide) (Nat.le_of_ble_eq_true rfl) (fun E C hR => ?_)
  show G E K 0 0 (cU K ad S z g X) [(0, .ref (ad (5 + z))), (1, .ref (ad (5 + x))), (2, .ref (ad (5 + y))), (3, .int (bz less))] 0 []
  refine g_aload_n (i := 0) C dX0_becomeTogether_0 rfl rfl ?_
  refine g_aload_n (i := 1) C dX0_becomeTogether_1 rfl rfl ?_
  refine g_callV (av := [.ref (ad (5 + x))]) C dX0_becomeTogether_2 ln_X0_33 mf_X0_become (5 + z) (cU_S hz) rfl (kX0_become K ad S X z g x hz hx nx ) rfl rfl (Nat.le_of_ble_eq_true rfl) ⟨Nat.le_of_ble_eq_true rfl, Nat.le_of_ble_eq_true rfl⟩ ⟨Nat.zero_le _, Nat.zero_le _⟩ (fun _ => ?_)
  refine g_bipush (v := 12) C dX0_becomeTogether_5 (by decide) ?_
  refine g_istore (lv2 := [(0, .ref (ad (5 + z))), (1, .ref (ad (5 + x))), (2, .ref (ad (5 + y))), (3, .int (bz less)), (4, .int 12)]) C dX0_becomeTogether_7 (by decide) rfl ?_
  have lo : ∀ (fuel : Nat) (j : Nat) (v : Int32) (q : Nat → Int64), j ≤ 13 → j < fuel → v = nI j - 1 → btF (fC S y) less j q = btF (fC S y) less 13 (cpyG (fC S x) g 13) → G E K 0 0 (cU K ad S z q X) [(0, .ref (ad (5 + z))), (1, .ref (ad (5 + x))), (2, .ref (ad (5 + y))), (3, .int (bz less)), (4, .int v)] 9 [] := by
    intro fuel
    induction fuel with
    | zero =>
      intro j v q hlo0 hlo1 hlo2 hlo3
      omega
    | succ fuel ihlo =>
      intro j v q hlo0 hlo1 hlo2 hlo3
      refine g_iload C dX0_becomeTogether_9 rfl ?_
      refine g_if_lt (tgt := 62) C dX0_becomeTogether_11 (by decide) (fun c11_1 => ?_) (fun c11_1 => ?_)
      · skip
        have ej : j = 0 := decn (by rw [← hlo2]; exact c11_1) (by omega)
        subst ej
        refine g_iconst (v := 1) C dX0_becomeTogether_62 (by decide) ?_
        exact hR _ _ _ _ () dX0_becomeTogether_63 (by rw [← hlo3] <;> rfl) (by show _ = cU K ad S z (btF (fC S y) less 13 (cpyG (fC S x) g 13)).2 X; rw [← hlo3] <;> rfl)
      · skip
        obtain ⟨j2, rfl⟩ := dec0 (j := j) (by rw [← hlo2]; exact c11_1)
        rw [nI_pred] at hlo2
        subst hlo2
        refine g_aload_n (i := 2) C dX0_becomeTogether_14 rfl rfl ?_
        refine g_get C dX0_becomeTogether_15 fl_X0_9 (5 + y) (cU_S hy) rfl ?_
        refine g_iload C dX0_becomeTogether_18 rfl ?_
        refine g_lald C dX0_becomeTogether_20 (15 + y) (cU_An hy ny) (vp_in_nI (by omega) (by decide)) ?_
        refine g_eql (congrArg (fC S y) (nI_clamp (by omega))) ?_
        refine g_lstore (lv2 := [(0, .ref (ad (5 + z))), (1, .ref (ad (5 + x))), (2, .ref (ad (5 + y))), (3, .int (bz less)), (4, .int (nI j2)), (5, .long ((fC S y) j2))]) C dX0_becomeTogether_21 (by decide) rfl ?_
        refine g_lload C dX0_becomeTogether_23 rfl ?_
        refine g_lconst (v := 0) C dX0_becomeTogether_25 (by decide) ?_
        refine g_lcmp_eq (tgt := 56) C dX0_becomeTogether_26 dX0_becomeTogether_27 (by decide) (fun c26_2 => ?_) (fun c26_2 => ?_)
        · skip
          refine g_iinc (v := (nI j2) + Int32.ofInt (-1)) (lv2 := [(0, .ref (ad (5 + z))), (1, .ref (ad (5 + x))), (2, .ref (ad (5 + y))), (3, .int (bz less)), (4, .int ((nI j2) + Int32.ofInt (-1))), (5, .long ((fC S y) j2))]) C dX0_becomeTogether_56 rfl rfl (by decide) rfl ?_
          refine g_goto (tgt := 9) C dX0_becomeTogether_59 (by decide) ?_
          exact g_lvs [0, 1, 2, 3, 4] rfl (ihlo j2 _ _ (by omega) (by omega) (dec1 j2) (by rw [← hlo3, btF, if_pos c26_2]))
        · skip
          refine g_aload_n (i := 0) C dX0_becomeTogether_30 rfl rfl ?_
          refine g_iload C dX0_becomeTogether_31 rfl ?_
          refine g_bipush (v := 6) C dX0_becomeTogether_33 (by decide) ?_
          refine g_isub C dX0_becomeTogether_35 ?_
          have j48 : G E K 0 0 (cU K ad S z q X) [(0, .ref (ad (5 + z))), (1, .ref (ad (5 + x))), (2, .ref (ad (5 + y))), (3, .int (bz less)), (4, .int (nI j2)), (5, .long ((fC S y) j2))] 48 [.long (bif less then -(fC S y j2) else fC S y j2), .int ((nI j2) - 6), .ref (ad (5 + z))] := by
            refine g_callV (av := [.int ((nI j2) - 6), .long (bif less then -(fC S y j2) else fC S y j2)]) C dX0_becomeTogether_48 ln_X0_29 mf_X0_put (5 + z) (cU_S hz) rfl (kX0_put K ad S X z q ((nI j2) - 6) (bif less then -(fC S y j2) else fC S y j2) hz  ) rfl rfl (Nat.le_of_ble_eq_true rfl) ⟨Nat.le_of_ble_eq_true rfl, Nat.le_of_ble_eq_true rfl⟩ ⟨Nat.zero_le _, Nat.zero_le _⟩ (fun _ => ?_)
            refine g_bz_ne (tgt := 56) C dX0_becomeTogether_51 (by decide) (fun c51_3 => ?_) (fun c51_3 => ?_)
            · skip
              refine g_iinc (v := (nI j2) + Int32.ofInt (-1)) (lv2 := [(0, .ref (ad (5 + z))), (1, .ref (ad (5 + x))), (2, .ref (ad (5 + y))), (3, .int (bz less)), (4, .int ((nI j2) + Int32.ofInt (-1))), (5, .long ((fC S y) j2))]) C dX0_becomeTogether_56 rfl rfl (by decide) rfl ?_
              refine g_goto (tgt := 9) C dX0_becomeTogether_59 (by decide) ?_
              exact g_lvs [0, 1, 2, 3, 4] rfl (ihlo j2 _ _ (by omega) (by omega) (dec1 j2) (by rw [← hlo3, btF, if_neg c26_2, c51_3, cond_true]))
            · skip
              refine g_iconst (v := 0) C dX0_becomeTogether_54 (by decide) ?_
              exact hR _ _ _ _ () dX0_becomeTogether_55 (by rw [← hlo3, btF, if_neg c26_2, c51_3, cond_false] <;> rfl) (by show _ = cU K ad S z (btF (fC S y) less 13 (cpyG (fC S x) g 13)).2 X; rw [← hlo3, btF, if_neg c26_2, c51_3, cond_false] <;> rfl)
          refine g_iload_n (i := 3) C dX0_becomeTogether_36 rfl rfl ?_
          refine g_bz_eq (tgt := 46) C dX0_becomeTogether_37 (by decide) (fun c37_4 => ?_) (fun c37_4 => ?_)
          · skip
            refine g_lload C dX0_becomeTogether_46 rfl ?_
            exact g_eql (by rw [c37_4] <;> rfl) j48
          · skip
            refine g_lload C dX0_becomeTogether_40 rfl ?_
            refine g_lneg C dX0_becomeTogether_42 ?_
            refine g_goto (tgt := 48) C dX0_becomeTogether_43 (by decide) ?_
            exact g_eql (by rw [c37_4] <;> rfl) j48
  exact g_lvs [0, 1, 2, 3, 4] rfl (lo 14 13 12 (cpyG (fC S x) g 13) (by omega) (by omega) rfl rfl)

set_option maxHeartbeats 600000 in
set_option maxRecDepth 100000 in
theorem kX0_becomeProduct (K : KT) (ad : Nat → Nat) (S : CS) (X : va_W) (z : Nat) (g : Nat → Int64) (x : Nat) (y : Nat) (hz : z < 10) (hx : x < 10) (nx : x ≠ z) (hy : y < 10) (ny : y ≠ z) : ∀ lau : Launch, Con lau yX0_becomeProduct cX0_becomeProduct 6 (some .boolean) 6 142 K (cU K ad S z g X) (fun _ : Unit => cU K ad S z ((bpF (fC S x) (fC S y) 13 (cpyG (fun _ => 0) g 13)).2) X) [.ref (ad (5 + z)), .ref (ad (5 + x)), .ref (ad (5 + y))] (some (.int (bz (bpF (fC S x) (fC S y) 13 (cpyG (fun _ => 0) g 13)).1))) := by
  refine conZ (by decide) (Nat.le_of_ble_eq_true rfl) (fun E C hR => ?_)
  show G E K 0 0 (cU K ad S z g X) [(0, .ref (ad (5 + z))), (1, .ref (ad (5 + x))), (2, .ref (ad (5 + y)))] 0 []
  refine g_aload_n (i := 0) C dX0_becomeProduct_0 rfl rfl ?_
  refine g_callV (av := []) C dX0_becomeProduct_1 ln_X0_37 mf_X0_clear (5 + z) (cU_S hz) rfl (kX0_clear K ad S X z g  hz  ) rfl rfl (Nat.le_of_ble_eq_true rfl) ⟨Nat.le_of_ble_eq_true rfl, Nat.le_of_ble_eq_true rfl⟩ ⟨Nat.zero_le _, Nat.zero_le _⟩ (fun _ => ?_)
  refine g_bipush (v := 12) C dX0_becomeProduct_4 (by decide) ?_
  refine g_istore_n (i := 3) (lv2 := [(0, .ref (ad (5 + z))), (1, .ref (ad (5 + x))), (2, .ref (ad (5 + y))), (3, .int 12)]) C dX0_becomeProduct_6 rfl (by decide) rfl ?_
  have lo : ∀ (fuel : Nat) (j : Nat) (v : Int32) (q : Nat → Int64), j ≤ 13 → j < fuel → v = nI j - 1 → bpF (fC S x) (fC S y) j q = bpF (fC S x) (fC S y) 13 (cpyG (fun _ => 0) g 13) → G E K 0 0 (cU K ad S z q X) [(0, .ref (ad (5 + z))), (1, .ref (ad (5 + x))), (2, .ref (ad (5 + y))), (3, .int v)] 7 [] := by
    intro fuel
    induction fuel with
    | zero =>
      intro j v q hlo0 hlo1 hlo2 hlo3
      omega
    | succ fuel ihlo =>
      intro j v q hlo0 hlo1 hlo2 hlo3
      refine g_iload_n (i := 3) C dX0_becomeProduct_7 rfl rfl ?_
      refine g_if_lt (tgt := 48) C dX0_becomeProduct_8 (by decide) (fun c8_1 => ?_) (fun c8_1 => ?_)
      · skip
        have ej : j = 0 := decn (by rw [← hlo2]; exact c8_1) (by omega)
        subst ej
        refine g_iconst (v := 1) C dX0_becomeProduct_48 (by decide) ?_
        exact hR _ _ _ _ () dX0_becomeProduct_49 (by rw [← hlo3] <;> rfl) (by show _ = cU K ad S z (bpF (fC S x) (fC S y) 13 (cpyG (fun _ => 0) g 13)).2 X; rw [← hlo3] <;> rfl)
      · skip
        obtain ⟨j2, rfl⟩ := dec0 (j := j) (by rw [← hlo2]; exact c8_1)
        rw [nI_pred] at hlo2
        subst hlo2
        refine g_aload_n (i := 1) C dX0_becomeProduct_11 rfl rfl ?_
        refine g_get C dX0_becomeProduct_12 fl_X0_9 (5 + x) (cU_S hx) rfl ?_
        refine g_iload_n (i := 3) C dX0_becomeProduct_15 rfl rfl ?_
        refine g_lald C dX0_becomeProduct_16 (15 + x) (cU_An hx nx) (vp_in_nI (by omega) (by decide)) ?_
        refine g_eql (congrArg (fC S x) (nI_clamp (by omega))) ?_
        refine g_lstore (lv2 := [(0, .ref (ad (5 + z))), (1, .ref (ad (5 + x))), (2, .ref (ad (5 + y))), (3, .int (nI j2)), (4, .long ((fC S x) j2))]) C dX0_becomeProduct_17 (by decide) rfl ?_
        refine g_lload C dX0_becomeProduct_19 rfl ?_
        refine g_lconst (v := 0) C dX0_becomeProduct_21 (by decide) ?_
        refine g_lcmp_eq (tgt := 42) C dX0_becomeProduct_22 dX0_becomeProduct_23 (by decide) (fun c22_2 => ?_) (fun c22_2 => ?_)
        · skip
          refine g_iinc (v := (nI j2) + Int32.ofInt (-1)) (lv2 := [(0, .ref (ad (5 + z))), (1, .ref (ad (5 + x))), (2, .ref (ad (5 + y))), (3, .int ((nI j2) + Int32.ofInt (-1))), (4, .long ((fC S x) j2))]) C dX0_becomeProduct_42 rfl rfl (by decide) rfl ?_
          refine g_goto (tgt := 7) C dX0_becomeProduct_45 (by decide) ?_
          exact g_lvs [0, 1, 2, 3] rfl (ihlo j2 _ _ (by omega) (by omega) (dec1 j2) (by rw [← hlo3, bpF, if_pos c22_2]))
        · skip
          refine g_aload_n (i := 0) C dX0_becomeProduct_26 rfl rfl ?_
          refine g_iload_n (i := 3) C dX0_becomeProduct_27 rfl rfl ?_
          refine g_bipush (v := 6) C dX0_becomeProduct_28 (by decide) ?_
          refine g_isub C dX0_becomeProduct_30 ?_
          refine g_lload C dX0_becomeProduct_31 rfl ?_
          refine g_aload_n (i := 2) C dX0_becomeProduct_33 rfl rfl ?_
          refine g_callV (av := [.int ((nI j2) - 6), .long ((fC S x) j2), .ref (ad (5 + y))]) C dX0_becomeProduct_34 ln_X0_40 mf_X0_putProducts (5 + z) (cU_S hz) rfl (kX0_putProducts K ad S X z q ((nI j2) - 6) ((fC S x) j2) y hz hy ny ) rfl rfl (Nat.le_of_ble_eq_true rfl) ⟨Nat.le_of_ble_eq_true rfl, Nat.le_of_ble_eq_true rfl⟩ ⟨Nat.zero_le _, Nat.zero_le _⟩ (fun _ => ?_)
          refine g_bz_ne (tgt := 42) C dX0_becomeProduct_37 (by decide) (fun c37_3 => ?_) (fun c37_3 => ?_)
          · skip
            refine g_iinc (v := (nI j2) + Int32.ofInt (-1)) (lv2 := [(0, .ref (ad (5 + z))), (1, .ref (ad (5 + x))), (2, .ref (ad (5 + y))), (3, .int ((nI j2) + Int32.ofInt (-1))), (4, .long ((fC S x) j2))]) C dX0_becomeProduct_42 rfl rfl (by decide) rfl ?_
            refine g_goto (tgt := 7) C dX0_becomeProduct_45 (by decide) ?_
            exact g_lvs [0, 1, 2, 3] rfl (ihlo j2 _ _ (by omega) (by omega) (dec1 j2) (by rw [← hlo3, bpF, if_neg c22_2, c37_3, cond_true]))
          · skip
            refine g_iconst (v := 0) C dX0_becomeProduct_40 (by decide) ?_
            exact hR _ _ _ _ () dX0_becomeProduct_41 (by rw [← hlo3, bpF, if_neg c22_2, c37_3, cond_false] <;> rfl) (by show _ = cU K ad S z (bpF (fC S x) (fC S y) 13 (cpyG (fun _ => 0) g 13)).2 X; rw [← hlo3, bpF, if_neg c22_2, c37_3, cond_false] <;> rfl)
  exact g_lvs [0, 1, 2, 3] rfl (lo 14 13 12 (cpyG (fun _ => 0) g 13) (by omega) (by omega) rfl rfl)
