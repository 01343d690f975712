theorem lge {c i : Nat} (h : nI c ≤ nI i) (hc : c < 2 ^ 31) (hi : i < 2 ^ 31) : c ≤ i := nle h hc hi
def fpI (S : CS) (l r : Int32) (i : Nat) : Nat → Nat → Option Nat
  | 0, _ => none
  | f + 1, j => bif tb l (nI i) then (bif tb r (nI j) then (if S.2.2.2.2.1 i < S.2.2.2.2.1 j then fpI S l r i f (j + 1) else some j) else fpI S l r i f (j + 1)) else fpI S l r i f (j + 1)
def fpO (S : CS) (l r : Int32) : Nat → Nat → Option (Nat × Nat)
  | 0, _ => none
  | f + 1, i => match fpI S l r i 12 0 with
    | some j => some (i, j)
    | none => fpO S l r f (i + 1)
def cFP (S : CS) (l r : Int32) : Bool × CS := match fpO S l r 12 0 with
  | none => (false, S)
  | some q => (true, (nI q.1, nI q.2, S.2.2.1, S.2.2.2.1, S.2.2.2.2.1, S.2.2.2.2.2))
theorem fpI_s {S : CS} {l r : Int32} {i j : Nat} (h : j < 12) : fpI S l r i (12 - j) j = bif tb l (nI i) then (bif tb r (nI j) then (if S.2.2.2.2.1 i < S.2.2.2.2.1 j then fpI S l r i (12 - (j + 1)) (j + 1) else some j) else fpI S l r i (12 - (j + 1)) (j + 1)) else fpI S l r i (12 - (j + 1)) (j + 1) := by
  rw [show 12 - j = (12 - (j + 1)) + 1 from by omega]
  rfl
theorem fpO_n {S : CS} {l r : Int32} {i : Nat} (h : i < 12) (hn : fpI S l r i 12 0 = none) : fpO S l r (12 - i) i = fpO S l r (12 - (i + 1)) (i + 1) := by
  rw [show 12 - i = (12 - (i + 1)) + 1 from by omega, fpO, hn]
theorem fpO_y {S : CS} {l r : Int32} {i j : Nat} (h : i < 12) (hn : fpI S l r i 12 0 = some j) : fpO S l r (12 - i) i = some (i, j) := by
  rw [show 12 - i = (12 - (i + 1)) + 1 from by omega, fpO, hn]
def laA (S : CS) (l : Int32) : Nat → Int64
  | 0 => -1152921504606846976
  | i + 1 => bif tb l (nI i) then (if S.2.2.2.2.1 i + 1 < laA S l i then laA S l i else S.2.2.2.2.1 i + 1) else laA S l i
def gbA (S : CS) (l : Int32) : Nat → Int64
  | 0 => 1152921504606846976
  | i + 1 => bif tb l (nI i) then (if S.2.2.2.2.1 i - 1 < gbA S l i then S.2.2.2.2.1 i - 1 else gbA S l i) else gbA S l i
def cCut (S : CS) (s l r : Int32) : Int32 × CS := bif isReg s then bif areRg l then bif areRg r then (bif (cFP S l r).1 then (-2, (cFP S l r).2) else cHS (cFP S l r).2 s (laA (cFP S l r).2 l 12) (gbA (cFP S l r).2 r 12)) else (-1, S) else (-1, S) else (-1, S)
def trR (x : Int32) : Nat → Int32
  | 0 => 0
  | i + 1 => (trR x i <<< ((1 : Int32) &&& 31)) ||| (ushrI x (nI i) &&& 1)
def cBorn (S : CS) (s d i : Int32) : Int32 × CS := bif isReg s then bif isLd d then (if i < 0 then (-1, S) else if i < 1 <<< (d &&& 31) then (d, cHold S s d (trR i d.toNatClampNeg)) else (-1, S)) else (-1, S) else (-1, S)
def clL (x d : Int32) : Nat → Int32
  | 0 => 0
  | i + 1 => bif tb x (nI i) then clL x d i + (1 <<< ((d - nI i) &&& 31)) else clL x d i
def cCL (S : CS) (s d : Int32) : Int32 := if d < dyC S s then clL (sgC S s) d (min (dyC S s).toNatClampNeg (d.toNatClampNeg + 1)) else clL (sgC S s) d (min (dyC S s).toNatClampNeg (d.toNatClampNeg + 1)) + lowB (d - dyC S s)
def cBet (S : CS) (s t d : Int32) : Int32 := bif isReg s then bif isReg t then bif isLd d then (if vlC S s < vlC S t then cCL S t d - cCL S s d - bz (decide (dyC S s ≤ d)) else -2) else -1 else -1 else -1
def wnL (S : CS) (x : Int32) : Nat → Int32 × Int64
  | 0 => (0, 0)
  | i + 1 => bif tb x (nI i) then ((wnL S x i).1 + S.2.2.1 i, (wnL S x i).2 + S.2.2.2.2.1 i) else wnL S x i
def cWins (S : CS) (x w : Int32) : Int32 := bif areRg x then (if w < 0 then -1 else if w ≤ 1 then (if 4 < bcI x then -2 else if (wnL S x 12).1 ≤ 14 then (if w = 0 then (if (wnL S x 12).2 ≤ 0 then 0 else 1) else (bif decide ((wnL S x 12).2 < 0) then 1 else 0)) else -2) else -1) else -1
def sdL (x : Int32) (q : Bool) : Nat → Option Nat
  | 0 => none
  | n + 1 => bif tb x (nI n) == q then some n else sdL x q n
def cSide (S : CS) (s t d : Int32) : Int32 × CS := bif isReg s then bif isReg t then (if d < 0 then (-1, S) else if d ≤ 1 then (match sdL (sgC S t) (decide (d = 0)) (dyC S t).toNatClampNeg with
    | none => (-2, S)
    | some n => (nI n, cHold S s (nI n) (sgC S t &&& lowB (nI n)))) else (-1, S)) else (-1, S) else (-1, S)
theorem isLd_nn {d : Int32} (h : isLd d = true) : ¬ d < 0 := by
  simp only [isLd, Bool.and_eq_true, Bool.not_eq_true', decide_eq_false_iff_not] at h
  exact h.1
theorem isLd_k {d : Int32} (h : isLd d = true) : ∃ k : Nat, k ≤ 20 ∧ d = nI k := by
  simp only [isLd, Bool.and_eq_true, Bool.not_eq_true', decide_eq_false_iff_not] at h
  exact nI_of2 (M := 20) rfl h.1 (Int32.not_lt.mp h.2)
theorem dec1 (n : Nat) : nI n + Int32.ofInt (-1) = nI n - 1 := by
  rw [Int32.sub_eq_add_neg]; rfl
theorem dec0 {j : Nat} (h : ¬ nI j - 1 < 0) : ∃ i, j = i + 1 := by
  cases j with
  | zero => exact absurd (by decide) h
  | succ i => exact ⟨i, rfl⟩
theorem decn {j : Nat} (h : nI j - 1 < 0) (hj : j < 2 ^ 31) : j = 0 := by
  cases j with
  | zero => rfl
  | succ i => rw [nI_pred] at h; exact absurd h (nI_pos (by omega))
set_option maxHeartbeats 600000 in
set_option maxRecDepth 100000 in
theorem kX1_findPair (K : KT) (ad : Nat → Nat) (S : CS) (X : va_W) (l : Int32) (r : Int32) : ∀ lau : Launch, Con lau yX1_findPair cX1_findPair 5 (some .boolean) 1 21 K (cW K ad S X) (fun _ : Unit => cW K ad ((cFP S l r).2) X) [.ref (ad 0), .int l, .int r] (some (.int (bz (cFP S l r).1))) := by
  refine conZ (by decide) (Nat.le_of_ble_eq_true rfl) (fun E C hR => ?_)
  show G E K 0 0 (cW K ad S X) [(0, .ref (ad 0)), (1, .int l), (2, .int r)] 0 []
  refine g_iconst (v := 0) C dX1_findPair_0 (by decide) ?_
  refine g_istore_n (i := 3) (lv2 := [(0, .ref (ad 0)), (1, .int l), (2, .int r), (3, .int 0)]) C dX1_findPair_1 rfl (by decide) rfl ?_
  have lo : ∀ (fuel : Nat) (i : Nat), i ≤ 12 → 12 < i + fuel → fpO S l r (12 - i) i = fpO S l r 12 0 → G E K 0 0 (cW K ad S X) [(0, .ref (ad 0)), (1, .int l), (2, .int r), (3, .int (nI i))] 2 [] := by
    intro fuel
    induction fuel with
    | zero =>
      intro i hlo0 hlo1 hlo2
      omega
    | succ fuel ihlo =>
      intro i hlo0 hlo1 hlo2
      refine g_iload_n (i := 3) C dX1_findPair_2 rfl rfl ?_
      refine g_bipush (v := 12) C dX1_findPair_3 (by decide) ?_
      refine g_icmp_ge (tgt := 77) C dX1_findPair_5 (by decide) (fun c5_1 => ?_) (fun c5_1 => ?_)
      · skip
        have ei : i = 12 := by have := nle (a := 12) c5_1 (by decide) (by omega); omega
        refine g_iconst (v := 0) C dX1_findPair_77 (by decide) ?_
        exact hR _ _ _ _ () dX1_findPair_78 (by rw [cFP, ← hlo2, ei]; rfl) (by show _ = cW K ad (cFP S l r).2 X; rw [cFP, ← hlo2, ei]; rfl)
      · skip
        have ei : i < 12 := nlt (a := 12) c5_1 (by decide) (by omega)
        refine g_iconst (v := 0) C dX1_findPair_8 (by decide) ?_
        refine g_istore (lv2 := [(0, .ref (ad 0)), (1, .int l), (2, .int r), (3, .int (nI i)), (4, .int 0)]) C dX1_findPair_9 (by decide) rfl ?_
        have li : ∀ (fuel2 : Nat) (j : Nat), j ≤ 12 → 12 < j + fuel2 → fpI S l r i (12 - j) j = fpI S l r i 12 0 → G E K 0 0 (cW K ad S X) [(0, .ref (ad 0)), (1, .int l), (2, .int r), (3, .int (nI i)), (4, .int (nI j))] 11 [] := by
          intro fuel2
          induction fuel2 with
          | zero =>
            intro j hli0 hli1 hli2
            omega
          | succ fuel2 ihli =>
            intro j hli0 hli1 hli2
            refine g_iload C dX1_findPair_11 rfl ?_
            refine g_bipush (v := 12) C dX1_findPair_13 (by decide) ?_
            refine g_icmp_ge (tgt := 71) C dX1_findPair_15 (by decide) (fun c15_2 => ?_) (fun c15_2 => ?_)
            · skip
              have ej : j = 12 := by have := nle (a := 12) c15_2 (by decide) (by omega); omega
              refine g_iinc (v := nI (i + 1)) (lv2 := [(0, .ref (ad 0)), (1, .int l), (2, .int r), (3, .int (nI (i + 1))), (4, .int (nI j))]) C dX1_findPair_71 rfl (nI_inc i) (by decide) rfl ?_
              refine g_goto (tgt := 2) C dX1_findPair_74 (by decide) ?_
              exact g_lvs [0, 1, 2, 3] rfl (ihlo (i + 1) (by omega) (by omega) ((fpO_n ei (hli2.symm.trans (by rw [ej]; rfl))).symm.trans hlo2))
            · skip
              have ej : j < 12 := nlt (a := 12) c15_2 (by decide) (by omega)
              refine g_iload_n (i := 1) C dX1_findPair_18 rfl rfl ?_
              refine g_iload_n (i := 3) C dX1_findPair_19 rfl rfl ?_
              refine g_callS (av := [.int l, .int (nI i)]) C dX1_findPair_20 ln_X1_106 mf_X1_has (kX1_has K (cW K ad S X) l (nI i)) rfl rfl (Nat.le_of_ble_eq_true rfl) ⟨Nat.le_of_ble_eq_true rfl, Nat.le_of_ble_eq_true rfl⟩ ⟨Nat.zero_le _, Nat.zero_le _⟩ (fun _ => ?_)
              refine g_bz_eq (tgt := 65) C dX1_findPair_23 (by decide) (fun c23_3 => ?_) (fun c23_3 => ?_)
              · skip
                refine g_iinc (v := nI (j + 1)) (lv2 := [(0, .ref (ad 0)), (1, .int l), (2, .int r), (3, .int (nI i)), (4, .int (nI (j + 1)))]) C dX1_findPair_65 rfl (nI_inc j) (by decide) rfl ?_
                refine g_goto (tgt := 11) C dX1_findPair_68 (by decide) ?_
                exact g_lvs [0, 1, 2, 3, 4] rfl (ihli (j + 1) (by omega) (by omega) (by rw [← hli2, fpI_s (j := j) ej, c23_3, cond_false]))
              · skip
                refine g_iload_n (i := 2) C dX1_findPair_26 rfl rfl ?_
                refine g_iload C dX1_findPair_27 rfl ?_
                refine g_callS (av := [.int r, .int (nI j)]) C dX1_findPair_29 ln_X1_106 mf_X1_has (kX1_has K (cW K ad S X) r (nI j)) rfl rfl (Nat.le_of_ble_eq_true rfl) ⟨Nat.le_of_ble_eq_true rfl, Nat.le_of_ble_eq_true rfl⟩ ⟨Nat.zero_le _, Nat.zero_le _⟩ (fun _ => ?_)
                refine g_bz_eq (tgt := 65) C dX1_findPair_32 (by decide) (fun c32_4 => ?_) (fun c32_4 => ?_)
                · skip
                  refine g_iinc (v := nI (j + 1)) (lv2 := [(0, .ref (ad 0)), (1, .int l), (2, .int r), (3, .int (nI i)), (4, .int (nI (j + 1)))]) C dX1_findPair_65 rfl (nI_inc j) (by decide) rfl ?_
                  refine g_goto (tgt := 11) C dX1_findPair_68 (by decide) ?_
                  exact g_lvs [0, 1, 2, 3, 4] rfl (ihli (j + 1) (by omega) (by omega) (by rw [← hli2, fpI_s (j := j) ej, c23_3, cond_true, c32_4, cond_false]))
                · skip
                  refine g_aload_n (i := 0) C dX1_findPair_35 rfl rfl ?_
                  refine g_get C dX1_findPair_36 fl_X1_16 0 rfl rfl ?_
                  refine g_iload_n (i := 3) C dX1_findPair_39 rfl rfl ?_
                  refine g_lald C dX1_findPair_40 3 rfl (vp_in_nI (by omega) (by decide)) ?_
                  refine g_eql (congrArg S.2.2.2.2.1 (nI_clamp (by omega))) ?_
                  refine g_aload_n (i := 0) C dX1_findPair_41 rfl rfl ?_
                  refine g_get C dX1_findPair_42 fl_X1_16 0 rfl rfl ?_
                  refine g_iload C dX1_findPair_45 rfl ?_
                  refine g_lald C dX1_findPair_47 3 rfl (vp_in_nI (by omega) (by decide)) ?_
                  refine g_eql (congrArg S.2.2.2.2.1 (nI_clamp (by omega))) ?_
                  refine g_lcmp_lt (tgt := 65) C dX1_findPair_48 dX1_findPair_49 (by decide) (fun c48_5 => ?_) (fun c48_5 => ?_)
                  · skip
                    refine g_iinc (v := nI (j + 1)) (lv2 := [(0, .ref (ad 0)), (1, .int l), (2, .int r), (3, .int (nI i)), (4, .int (nI (j + 1)))]) C dX1_findPair_65 rfl (nI_inc j) (by decide) rfl ?_
                    refine g_goto (tgt := 11) C dX1_findPair_68 (by decide) ?_
                    exact g_lvs [0, 1, 2, 3, 4] rfl (ihli (j + 1) (by omega) (by omega) (by rw [← hli2, fpI_s (j := j) ej, c23_3, cond_true, c32_4, cond_true, if_pos c48_5]))
                  · skip
                    refine g_aload_n (i := 0) C dX1_findPair_52 rfl rfl ?_
                    refine g_iload_n (i := 3) C dX1_findPair_53 rfl rfl ?_
                    refine g_put (Wd2 := cW K ad (nI i, S.2.1, S.2.2.1, S.2.2.2.1, S.2.2.2.2.1, S.2.2.2.2.2) X) C dX1_findPair_54 fp_X1_20 0 rfl rfl rfl (Nat.le_of_ble_eq_true rfl) rfl ?_
                    refine g_aload_n (i := 0) C dX1_findPair_57 rfl rfl ?_
                    refine g_iload C dX1_findPair_58 rfl ?_
                    refine g_put (Wd2 := cW K ad (nI i, nI j, S.2.2.1, S.2.2.2.1, S.2.2.2.2.1, S.2.2.2.2.2) X) C dX1_findPair_60 fp_X1_24 0 rfl rfl rfl (Nat.le_of_ble_eq_true rfl) rfl ?_
                    refine g_iconst (v := 1) C dX1_findPair_63 (by decide) ?_
                    exact hR _ _ _ _ () dX1_findPair_64 (by rw [cFP, ← hlo2, fpO_y ei (by rw [← hli2, fpI_s (j := j) ej, c23_3, cond_true, c32_4, cond_true, if_neg c48_5])] <;> rfl) (by show _ = cW K ad (cFP S l r).2 X; rw [cFP, ← hlo2, fpO_y ei (by rw [← hli2, fpI_s (j := j) ej, c23_3, cond_true, c32_4, cond_true, if_neg c48_5])] <;> rfl)
        exact g_lvs [0, 1, 2, 3, 4] rfl (li 13 0 (by omega) (by omega) rfl)
  exact g_lvs [0, 1, 2, 3] rfl (lo 13 0 (by omega) (by omega) rfl)

set_option maxHeartbeats 600000 in
set_option maxRecDepth 100000 in
theorem kX1_leastAboveAll (K : KT) (ad : Nat → Nat) (S : CS) (X : va_W) (l : Int32) : ∀ lau : Launch, Con lau yX1_leastAboveAll cX1_leastAboveAll 5 (some .long) 1 21 K (cW K ad S X) (fun _ : Unit => cW K ad S X) [.ref (ad 0), .int l] (some (.long (laA S l 12))) := by
  refine conL (by decide) (Nat.le_of_ble_eq_true rfl) (fun E C hR => ?_)
  show G E K 0 0 (cW K ad S X) [(0, .ref (ad 0)), (1, .int l)] 0 []
  refine g_ldc2 (v := (-1152921504606846976)) C dX1_leastAboveAll_0 kc_X1_190 ?_
  refine g_lstore_n (i := 2) (lv2 := [(0, .ref (ad 0)), (1, .int l), (2, .long (-1152921504606846976))]) C dX1_leastAboveAll_3 rfl (by decide) rfl ?_
  refine g_iconst (v := 0) C dX1_leastAboveAll_4 (by decide) ?_
  refine g_istore (lv2 := [(0, .ref (ad 0)), (1, .int l), (2, .long (-1152921504606846976)), (4, .int 0)]) C dX1_leastAboveAll_5 (by decide) rfl ?_
  have lo : ∀ (fuel : Nat) (i : Nat) (a : Int64), i ≤ 12 → 12 < i + fuel → a = laA S l i → G E K 0 0 (cW K ad S X) [(0, .ref (ad 0)), (1, .int l), (2, .long a), (4, .int (nI i))] 7 [] := by
    intro fuel
    induction fuel with
    | zero =>
      intro i a hlo0 hlo1 hlo2
      omega
    | succ fuel ihlo =>
      intro i a hlo0 hlo1 hlo2
      refine g_iload C dX1_leastAboveAll_7 rfl ?_
      refine g_bipush (v := 12) C dX1_leastAboveAll_9 (by decide) ?_
      refine g_icmp_ge (tgt := 43) C dX1_leastAboveAll_11 (by decide) (fun c11_1 => ?_) (fun c11_1 => ?_)
      · skip
        have ei : i = 12 := by have := nle (a := 12) c11_1 (by decide) (by omega); omega
        refine g_lload_n (i := 2) C dX1_leastAboveAll_43 rfl rfl ?_
        exact hR _ _ _ _ () dX1_leastAboveAll_44 (by rw [hlo2, ei]) (rfl)
      · skip
        have ei : i < 12 := nlt (a := 12) c11_1 (by decide) (by omega)
        refine g_iload_n (i := 1) C dX1_leastAboveAll_14 rfl rfl ?_
        refine g_iload C dX1_leastAboveAll_15 rfl ?_
        refine g_callS (av := [.int l, .int (nI i)]) C dX1_leastAboveAll_17 ln_X1_106 mf_X1_has (kX1_has K (cW K ad S X) l (nI i)) rfl rfl (Nat.le_of_ble_eq_true rfl) ⟨Nat.le_of_ble_eq_true rfl, Nat.le_of_ble_eq_true rfl⟩ ⟨Nat.zero_le _, Nat.zero_le _⟩ (fun _ => ?_)
        refine g_bz_eq (tgt := 37) C dX1_leastAboveAll_20 (by decide) (fun c20_2 => ?_) (fun c20_2 => ?_)
        · skip
          refine g_iinc (v := nI (i + 1)) (lv2 := [(0, .ref (ad 0)), (1, .int l), (2, .long a), (4, .int (nI (i + 1)))]) C dX1_leastAboveAll_37 rfl (nI_inc i) (by decide) rfl ?_
          refine g_goto (tgt := 7) C dX1_leastAboveAll_40 (by decide) ?_
          exact g_lvs [0, 1, 2, 3] rfl (ihlo (i + 1) _ (by omega) (by omega) (by rw [laA, c20_2, cond_false, hlo2]))
        · skip
          refine g_lload_n (i := 2) C dX1_leastAboveAll_23 rfl rfl ?_
          refine g_aload_n (i := 0) C dX1_leastAboveAll_24 rfl rfl ?_
          refine g_get C dX1_leastAboveAll_25 fl_X1_16 0 rfl rfl ?_
          refine g_iload C dX1_leastAboveAll_28 rfl ?_
          refine g_lald C dX1_leastAboveAll_30 3 rfl (vp_in_nI (by omega) (by decide)) ?_
          refine g_eql (congrArg S.2.2.2.2.1 (nI_clamp (by omega))) ?_
          refine g_lconst (v := 1) C dX1_leastAboveAll_31 (by decide) ?_
          refine g_ladd C dX1_leastAboveAll_32 ?_
          refine g_mmaxL C dX1_leastAboveAll_33 ln_X1_192 ma_mmaxL_s it_J9 ma_mmaxL_c (Nat.le_of_ble_eq_true rfl) (Nat.le_of_ble_eq_true rfl) (Nat.le_refl _) (Nat.le_refl _) ?_
          refine g_lstore_n (i := 2) (lv2 := [(0, .ref (ad 0)), (1, .int l), (2, .long (if ((S.2.2.2.2.1 i) + 1) < a then a else (S.2.2.2.2.1 i) + 1)), (4, .int (nI i))]) C dX1_leastAboveAll_36 rfl (by decide) rfl ?_
          refine g_iinc (v := nI (i + 1)) (lv2 := [(0, .ref (ad 0)), (1, .int l), (2, .long (if ((S.2.2.2.2.1 i) + 1) < a then a else (S.2.2.2.2.1 i) + 1)), (4, .int (nI (i + 1)))]) C dX1_leastAboveAll_37 rfl (nI_inc i) (by decide) rfl ?_
          refine g_goto (tgt := 7) C dX1_leastAboveAll_40 (by decide) ?_
          exact g_lvs [0, 1, 2, 3] rfl (ihlo (i + 1) _ (by omega) (by omega) (by rw [laA, c20_2, cond_true, hlo2]))
  exact g_lvs [0, 1, 2, 3] rfl (lo 13 0 (-1152921504606846976) (by omega) (by omega) rfl)

set_option maxHeartbeats 600000 in
set_option maxRecDepth 100000 in
theorem kX1_greatestBelowAll (K : KT) (ad : Nat → Nat) (S : CS) (X : va_W) (l : Int32) : ∀ lau : Launch, Con lau yX1_greatestBelowAll cX1_greatestBelowAll 5 (some .long) 1 21 K (cW K ad S X) (fun _ : Unit => cW K ad S X) [.ref (ad 0), .int l] (some (.long (gbA S l 12))) := by
  refine conL (by decide) (Nat.le_of_ble_eq_true rfl) (fun E C hR => ?_)
  show G E K 0 0 (cW K ad S X) [(0, .ref (ad 0)), (1, .int l)] 0 []
  refine g_ldc2 (v := 1152921504606846976) C dX1_greatestBelowAll_0 kc_X1_159 ?_
  refine g_lstore_n (i := 2) (lv2 := [(0, .ref (ad 0)), (1, .int l), (2, .long 1152921504606846976)]) C dX1_greatestBelowAll_3 rfl (by decide) rfl ?_
  refine g_iconst (v := 0) C dX1_greatestBelowAll_4 (by decide) ?_
  refine g_istore (lv2 := [(0, .ref (ad 0)), (1, .int l), (2, .long 1152921504606846976), (4, .int 0)]) C dX1_greatestBelowAll_5 (by decide) rfl ?_
  have lo : ∀ (fuel : Nat) (i : Nat) (a : Int64), i ≤ 12 → 12 < i + fuel → a = gbA S l i → G E K 0 0 (cW K ad S X) [(0, .ref (ad 0)), (1, .int l), (2, .long a), (4, .int (nI i))] 7 [] := by
    intro fuel
    induction fuel with
    | zero =>
      intro i a hlo0 hlo1 hlo2
      omega
    | succ fuel ihlo =>
      intro i a hlo0 hlo1 hlo2
      refine g_iload C dX1_greatestBelowAll_7 rfl ?_
      refine g_bipush (v := 12) C dX1_greatestBelowAll_9 (by decide) ?_
      refine g_icmp_ge (tgt := 43) C dX1_greatestBelowAll_11 (by decide) (fun c11_1 => ?_) (fun c11_1 => ?_)
      · skip
        have ei : i = 12 := by have := nle (a := 12) c11_1 (by decide) (by omega); omega
        refine g_lload_n (i := 2) C dX1_greatestBelowAll_43 rfl rfl ?_
        exact hR _ _ _ _ () dX1_greatestBelowAll_44 (by rw [hlo2, ei]) (rfl)
      · skip
        have ei : i < 12 := nlt (a := 12) c11_1 (by decide) (by omega)
        refine g_iload_n (i := 1) C dX1_greatestBelowAll_14 rfl rfl ?_
        refine g_iload C dX1_greatestBelowAll_15 rfl ?_
        refine g_callS (av := [.int l, .int (nI i)]) C dX1_greatestBelowAll_17 ln_X1_106 mf_X1_has (kX1_has K (cW K ad S X) l (nI i)) rfl rfl (Nat.le_of_ble_eq_true rfl) ⟨Nat.le_of_ble_eq_true rfl, Nat.le_of_ble_eq_true rfl⟩ ⟨Nat.zero_le _, Nat.zero_le _⟩ (fun _ => ?_)
        refine g_bz_eq (tgt := 37) C dX1_greatestBelowAll_20 (by decide) (fun c20_2 => ?_) (fun c20_2 => ?_)
        · skip
          refine g_iinc (v := nI (i + 1)) (lv2 := [(0, .ref (ad 0)), (1, .int l), (2, .long a), (4, .int (nI (i + 1)))]) C dX1_greatestBelowAll_37 rfl (nI_inc i) (by decide) rfl ?_
          refine g_goto (tgt := 7) C dX1_greatestBelowAll_40 (by decide) ?_
          exact g_lvs [0, 1, 2, 3] rfl (ihlo (i + 1) _ (by omega) (by omega) (by rw [gbA, c20_2, cond_false, hlo2]))
        · skip
          refine g_lload_n (i := 2) C dX1_greatestBelowAll_23 rfl rfl ?_
          refine g_aload_n (i := 0) C dX1_greatestBelowAll_24 rfl rfl ?_
          refine g_get C dX1_greatestBelowAll_25 fl_X1_16 0 rfl rfl ?_
          refine g_iload C dX1_greatestBelowAll_28 rfl ?_
          refine g_lald C dX1_greatestBelowAll_30 3 rfl (vp_in_nI (by omega) (by decide)) ?_
          refine g_eql (congrArg S.2.2.2.2.1 (nI_clamp (by omega))) ?_
          refine g_lconst (v := 1) C dX1_greatestBelowAll_31 (by decide) ?_
          refine g_lsub C dX1_greatestBelowAll_32 ?_
          refine g_mminL C dX1_greatestBelowAll_33 ln_X1_195 ma_mminL_s it_J9 ma_mminL_c (Nat.le_of_ble_eq_true rfl) (Nat.le_of_ble_eq_true rfl) (Nat.le_refl _) (Nat.le_refl _) ?_
          refine g_lstore_n (i := 2) (lv2 := [(0, .ref (ad 0)), (1, .int l), (2, .long (if ((S.2.2.2.2.1 i) - 1) < a then (S.2.2.2.2.1 i) - 1 else a)), (4, .int (nI i))]) C dX1_greatestBelowAll_36 rfl (by decide) rfl ?_
          refine g_iinc (v := nI (i + 1)) (lv2 := [(0, .ref (ad 0)), (1, .int l), (2, .long (if ((S.2.2.2.2.1 i) - 1) < a then (S.2.2.2.2.1 i) - 1 else a)), (4, .int (nI (i + 1)))]) C dX1_greatestBelowAll_37 rfl (nI_inc i) (by decide) rfl ?_
          refine g_goto (tgt := 7) C dX1_greatestBelowAll_40 (by decide) ?_
          exact g_lvs [0, 1, 2, 3] rfl (ihlo (i + 1) _ (by omega) (by omega) (by rw [gbA, c20_2, cond_true, hlo2]))
  exact g_lvs [0, 1, 2, 3] rfl (lo 13 0 (1152921504606846976) (by omega) (by omega) rfl)

set_option maxHeartbeats 600000 in
set_option maxRecDepth 100000 in
theorem kX1_cut (K : KT) (ad : Nat → Nat) (S : CS) (X : va_W) (s : Int32) (l : Int32) (r : Int32) : ∀ lau : Launch, Con lau yX1_cut cX1_cut 4 (some .int) 5 123 K (cW K ad S X) (fun _ : Unit => cW K ad ((cCut S s l r).2) X) [.ref (ad 0), .int s, .int l, .int r] (some (.int ((cCut S s l r).1))) := by
  refine conI (by decide) (Nat.le_of_ble_eq_true rfl) (fun E C hR => ?_)
  show G E K 0 0 (cW K ad S X) [(0, .ref (ad 0)), (1, .int s), (2, .int l), (3, .int r)] 0 []
  refine g_iload_n (i := 1) C dX1_cut_0 rfl rfl ?_
  refine g_callS (av := [.int s]) C dX1_cut_1 ln_X1_41 mf_X1_isRegister (kX1_isRegister K (cW K ad S X) s) rfl rfl (Nat.le_of_ble_eq_true rfl) ⟨Nat.le_of_ble_eq_true rfl, Nat.le_of_ble_eq_true rfl⟩ ⟨Nat.zero_le _, Nat.zero_le _⟩ (fun _ => ?_)
  refine g_bz_eq (tgt := 21) C dX1_cut_4 (by decide) (fun c4_1 => ?_) (fun c4_1 => ?_)
  · skip
    refine g_iconst (v := (-1)) C dX1_cut_21 (by decide) ?_
    exact hR _ _ _ _ () dX1_cut_22 (by rw [cCut, c4_1, cond_false] <;> rfl) (by show _ = cW K ad (cCut S s l r).2 X; rw [cCut, c4_1, cond_false] <;> rfl)
  · skip
    refine g_iload_n (i := 2) C dX1_cut_7 rfl rfl ?_
    refine g_callS (av := [.int l]) C dX1_cut_8 ln_X1_79 mf_X1_areRegisters (kX1_areRegisters K (cW K ad S X) l) rfl rfl (Nat.le_of_ble_eq_true rfl) ⟨Nat.le_of_ble_eq_true rfl, Nat.le_of_ble_eq_true rfl⟩ ⟨Nat.zero_le _, Nat.zero_le _⟩ (fun _ => ?_)
    refine g_bz_eq (tgt := 21) C dX1_cut_11 (by decide) (fun c11_2 => ?_) (fun c11_2 => ?_)
    · skip
      refine g_iconst (v := (-1)) C dX1_cut_21 (by decide) ?_
      exact hR _ _ _ _ () dX1_cut_22 (by rw [cCut, c4_1, cond_true, c11_2, cond_false] <;> rfl) (by show _ = cW K ad (cCut S s l r).2 X; rw [cCut, c4_1, cond_true, c11_2, cond_false] <;> rfl)
    · skip
      refine g_iload_n (i := 3) C dX1_cut_14 rfl rfl ?_
      refine g_callS (av := [.int r]) C dX1_cut_15 ln_X1_79 mf_X1_areRegisters (kX1_areRegisters K (cW K ad S X) r) rfl rfl (Nat.le_of_ble_eq_true rfl) ⟨Nat.le_of_ble_eq_true rfl, Nat.le_of_ble_eq_true rfl⟩ ⟨Nat.zero_le _, Nat.zero_le _⟩ (fun _ => ?_)
      refine g_bz_ne (tgt := 23) C dX1_cut_18 (by decide) (fun c18_3 => ?_) (fun c18_3 => ?_)
      · skip
        refine g_aload_n (i := 0) C dX1_cut_23 rfl rfl ?_
        refine g_iload_n (i := 2) C dX1_cut_24 rfl rfl ?_
        refine g_iload_n (i := 3) C dX1_cut_25 rfl rfl ?_
        refine g_callV (av := [.int l, .int r]) C dX1_cut_26 ln_X1_82 mf_X1_findPair 0 rfl rfl (kX1_findPair K ad S X l r ) rfl rfl (Nat.le_of_ble_eq_true rfl) ⟨Nat.le_of_ble_eq_true rfl, Nat.le_of_ble_eq_true rfl⟩ ⟨Nat.zero_le _, Nat.zero_le _⟩ (fun _ => ?_)
        refine g_bz_eq (tgt := 35) C dX1_cut_29 (by decide) (fun c29_4 => ?_) (fun c29_4 => ?_)
        · skip
          refine g_aload_n (i := 0) C dX1_cut_35 rfl rfl ?_
          refine g_iload_n (i := 1) C dX1_cut_36 rfl rfl ?_
          refine g_aload_n (i := 0) C dX1_cut_37 rfl rfl ?_
          refine g_iload_n (i := 2) C dX1_cut_38 rfl rfl ?_
          refine g_callV (av := [.int l]) C dX1_cut_39 ln_X1_85 mf_X1_leastAboveAll 0 rfl rfl (kX1_leastAboveAll K ad ((cFP S l r).2) X l ) rfl rfl (Nat.le_of_ble_eq_true rfl) ⟨Nat.le_of_ble_eq_true rfl, Nat.le_of_ble_eq_true rfl⟩ ⟨Nat.zero_le _, Nat.zero_le _⟩ (fun _ => ?_)
          refine g_aload_n (i := 0) C dX1_cut_42 rfl rfl ?_
          refine g_iload_n (i := 3) C dX1_cut_43 rfl rfl ?_
          refine g_callV (av := [.int r]) C dX1_cut_44 ln_X1_89 mf_X1_greatestBelowAll 0 rfl rfl (kX1_greatestBelowAll K ad ((cFP S l r).2) X r ) rfl rfl (Nat.le_of_ble_eq_true rfl) ⟨Nat.le_of_ble_eq_true rfl, Nat.le_of_ble_eq_true rfl⟩ ⟨Nat.zero_le _, Nat.zero_le _⟩ (fun _ => ?_)
          refine g_callV (av := [.int s, .long (laA ((cFP S l r).2) l 12), .long (gbA ((cFP S l r).2) r 12)]) C dX1_cut_47 ln_X1_92 mf_X1_holdSimplest 0 rfl rfl (kX1_holdSimplest K ad ((cFP S l r).2) X s (laA ((cFP S l r).2) l 12) (gbA ((cFP S l r).2) r 12) c4_1) rfl rfl (Nat.le_of_ble_eq_true rfl) ⟨Nat.le_of_ble_eq_true rfl, Nat.le_of_ble_eq_true rfl⟩ ⟨Nat.zero_le _, Nat.zero_le _⟩ (fun _ => ?_)
          exact hR _ _ _ _ () dX1_cut_50 (by rw [cCut, c4_1, cond_true, c11_2, cond_true, c18_3, cond_true, c29_4, cond_false] <;> rfl) (by show _ = cW K ad (cCut S s l r).2 X; rw [cCut, c4_1, cond_true, c11_2, cond_true, c18_3, cond_true, c29_4, cond_false] <;> rfl)
        · skip
          refine g_bipush (v := (-2)) C dX1_cut_32 (by decide) ?_
          exact hR _ _ _ _ () dX1_cut_34 (by rw [cCut, c4_1, cond_true, c11_2, cond_true, c18_3, cond_true, c29_4, cond_true] <;> rfl) (by show _ = cW K ad (cCut S s l r).2 X; rw [cCut, c4_1, cond_true, c11_2, cond_true, c18_3, cond_true, c29_4, cond_true] <;> rfl)
      · skip
        refine g_iconst (v := (-1)) C dX1_cut_21 (by decide) ?_
        exact hR _ _ _ _ () dX1_cut_22 (by rw [cCut, c4_1, cond_true, c11_2, cond_true, c18_3, cond_false] <;> rfl) (by show _ = cW K ad (cCut S s l r).2 X; rw [cCut, c4_1, cond_true, c11_2, cond_true, c18_3, cond_false] <;> rfl)

set_option maxHeartbeats 600000 in
set_option maxRecDepth 100000 in
theorem kX1_turnedRound (K : KT) (Wd : va_W) (x : Int32) (n : Nat) (hn : n < 2 ^ 31) : ∀ lau : Launch, Con lau yX1_turnedRound cX1_turnedRound 4 (some .int) 0 0 K Wd (fun _ : Unit => Wd) [.int x, .int (nI n)] (some (.int (trR x n))) := by
  refine conI (by decide) (Nat.le_of_ble_eq_true rfl) (fun E C hR => ?_)
  show G E K 0 0 Wd [(0, .int x), (1, .int (nI n))] 0 []
  refine g_iconst (v := 0) C dX1_turnedRound_0 (by decide) ?_
  refine g_istore_n (i := 2) (lv2 := [(0, .int x), (1, .int (nI n)), (2, .int 0)]) C dX1_turnedRound_1 rfl (by decide) rfl ?_
  refine g_iconst (v := 0) C dX1_turnedRound_2 (by decide) ?_
  refine g_istore_n (i := 3) (lv2 := [(0, .int x), (1, .int (nI n)), (2, .int 0), (3, .int 0)]) C dX1_turnedRound_3 rfl (by decide) rfl ?_
  have lo : ∀ (fuel : Nat) (i : Nat) (a : Int32), i ≤ n → n < i + fuel → a = trR x i → G E K 0 0 Wd [(0, .int x), (1, .int (nI n)), (2, .int a), (3, .int (nI i))] 4 [] := by
    intro fuel
    induction fuel with
    | zero =>
      intro i a hlo0 hlo1 hlo2
      omega
    | succ fuel ihlo =>
      intro i a hlo0 hlo1 hlo2
      refine g_iload_n (i := 3) C dX1_turnedRound_4 rfl rfl ?_
      refine g_iload_n (i := 1) C dX1_turnedRound_5 rfl rfl ?_
      refine g_icmp_ge (tgt := 25) C dX1_turnedRound_6 (by decide) (fun c6_1 => ?_) (fun c6_1 => ?_)
      · skip
        refine g_iload_n (i := 2) C dX1_turnedRound_25 rfl rfl ?_
        exact hR _ _ _ _ () dX1_turnedRound_26 (by have e : i = n := Nat.le_antisymm hlo0 (nle c6_1 hn (by omega)); rw [hlo2, e]) (rfl)
      · skip
        refine g_iload_n (i := 2) C dX1_turnedRound_9 rfl rfl ?_
        refine g_iconst (v := 1) C dX1_turnedRound_10 (by decide) ?_
        refine g_ishl C dX1_turnedRound_11 ?_
        refine g_iload_n (i := 0) C dX1_turnedRound_12 rfl rfl ?_
        refine g_iload_n (i := 3) C dX1_turnedRound_13 rfl rfl ?_
        refine g_iushr (v := ushrI x (nI i)) C dX1_turnedRound_14 rfl ?_
        refine g_iconst (v := 1) C dX1_turnedRound_15 (by decide) ?_
        refine g_iand C dX1_turnedRound_16 ?_
        refine g_ior C dX1_turnedRound_17 ?_
        refine g_istore_n (i := 2) (lv2 := [(0, .int x), (1, .int (nI n)), (2, .int ((a <<< (1 &&& 31)) ||| ((ushrI x (nI i)) &&& 1))), (3, .int (nI i))]) C dX1_turnedRound_18 rfl (by decide) rfl ?_
        refine g_iinc (v := nI (i + 1)) (lv2 := [(0, .int x), (1, .int (nI n)), (2, .int ((a <<< (1 &&& 31)) ||| ((ushrI x (nI i)) &&& 1))), (3, .int (nI (i + 1)))]) C dX1_turnedRound_19 rfl (nI_inc i) (by decide) rfl ?_
        refine g_goto (tgt := 4) C dX1_turnedRound_22 (by decide) ?_
        exact g_lvs [0, 1, 2, 3] rfl (ihlo (i + 1) _ (nlt c6_1 hn (by omega)) (by omega) (by rw [trR, hlo2]))
  exact g_lvs [0, 1, 2, 3] rfl (lo (n + 1) 0 0 (by omega) (by omega) rfl)

theorem kX1_turnedRoundI (K : KT) (Wd : va_W) (x n : Int32) (h : ¬ n < 0) : ∀ l : Launch, Con l yX1_turnedRound cX1_turnedRound 4 (some .int) 0 0 K Wd (fun _ : Unit => Wd) [.int x, .int n] (some (.int (trR x n.toNatClampNeg))) := by
  obtain ⟨j, hj, rfl⟩ := nI_of h
  rw [nI_clamp hj]
  exact kX1_turnedRound K Wd x j hj

set_option maxHeartbeats 600000 in
set_option maxRecDepth 100000 in
theorem kX1_born (K : KT) (ad : Nat → Nat) (S : CS) (X : va_W) (s : Int32) (d : Int32) (i : Int32) : ∀ lau : Launch, Con lau yX1_born cX1_born 4 (some .int) 4 94 K (cW K ad S X) (fun _ : Unit => cW K ad ((cBorn S s d i).2) X) [.ref (ad 0), .int s, .int d, .int i] (some (.int ((cBorn S s d i).1))) := by
  refine conI (by decide) (Nat.le_of_ble_eq_true rfl) (fun E C hR => ?_)
  show G E K 0 0 (cW K ad S X) [(0, .ref (ad 0)), (1, .int s), (2, .int d), (3, .int i)] 0 []
  refine g_iload_n (i := 1) C dX1_born_0 rfl rfl ?_
  refine g_callS (av := [.int s]) C dX1_born_1 ln_X1_41 mf_X1_isRegister (kX1_isRegister K (cW K ad S X) s) rfl rfl (Nat.le_of_ble_eq_true rfl) ⟨Nat.le_of_ble_eq_true rfl, Nat.le_of_ble_eq_true rfl⟩ ⟨Nat.zero_le _, Nat.zero_le _⟩ (fun _ => ?_)
  refine g_bz_eq (tgt := 25) C dX1_born_4 (by decide) (fun c4_1 => ?_) (fun c4_1 => ?_)
  · skip
    refine g_iconst (v := (-1)) C dX1_born_25 (by decide) ?_
    exact hR _ _ _ _ () dX1_born_26 (by rw [cBorn, c4_1, cond_false] <;> rfl) (by show _ = cW K ad (cBorn S s d i).2 X; rw [cBorn, c4_1, cond_false] <;> rfl)
  · skip
    refine g_iload_n (i := 2) C dX1_born_7 rfl rfl ?_
    refine g_callS (av := [.int d]) C dX1_born_8 ln_X1_96 mf_X1_isListedDay (kX1_isListedDay K (cW K ad S X) d) rfl rfl (Nat.le_of_ble_eq_true rfl) ⟨Nat.le_of_ble_eq_true rfl, Nat.le_of_ble_eq_true rfl⟩ ⟨Nat.zero_le _, Nat.zero_le _⟩ (fun _ => ?_)
    refine g_bz_eq (tgt := 25) C dX1_born_11 (by decide) (fun c11_2 => ?_) (fun c11_2 => ?_)
    · skip
      refine g_iconst (v := (-1)) C dX1_born_25 (by decide) ?_
      exact hR _ _ _ _ () dX1_born_26 (by rw [cBorn, c4_1, cond_true, c11_2, cond_false] <;> rfl) (by show _ = cW K ad (cBorn S s d i).2 X; rw [cBorn, c4_1, cond_true, c11_2, cond_false] <;> rfl)
    · skip
      refine g_iload_n (i := 3) C dX1_born_14 rfl rfl ?_
      refine g_if_lt (tgt := 25) C dX1_born_15 (by decide) (fun c15_3 => ?_) (fun c15_3 => ?_)
      · skip
        refine g_iconst (v := (-1)) C dX1_born_25 (by decide) ?_
        exact hR _ _ _ _ () dX1_born_26 (by rw [cBorn, c4_1, cond_true, c11_2, cond_true, if_pos c15_3] <;> rfl) (by show _ = cW K ad (cBorn S s d i).2 X; rw [cBorn, c4_1, cond_true, c11_2, cond_true, if_pos c15_3] <;> rfl)
      · skip
        refine g_iload_n (i := 3) C dX1_born_18 rfl rfl ?_
        refine g_iconst (v := 1) C dX1_born_19 (by decide) ?_
        refine g_iload_n (i := 2) C dX1_born_20 rfl rfl ?_
        refine g_ishl C dX1_born_21 ?_
        refine g_icmp_lt (tgt := 27) C dX1_born_22 (by decide) (fun c22_4 => ?_) (fun c22_4 => ?_)
        · skip
          refine g_aload_n (i := 0) C dX1_born_27 rfl rfl ?_
          refine g_iload_n (i := 1) C dX1_born_28 rfl rfl ?_
          refine g_iload_n (i := 2) C dX1_born_29 rfl rfl ?_
          refine g_iload_n (i := 3) C dX1_born_30 rfl rfl ?_
          refine g_iload_n (i := 2) C dX1_born_31 rfl rfl ?_
          refine g_callS (av := [.int i, .int d]) C dX1_born_32 ln_X1_99 mf_X1_turnedRound (kX1_turnedRoundI K (cW K ad S X) i d (isLd_nn c11_2)) rfl rfl (Nat.le_of_ble_eq_true rfl) ⟨Nat.le_of_ble_eq_true rfl, Nat.le_of_ble_eq_true rfl⟩ ⟨Nat.zero_le _, Nat.zero_le _⟩ (fun _ => ?_)
          refine g_callV (av := [.int s, .int d, .int (trR i d.toNatClampNeg)]) C dX1_born_35 ln_X1_45 mf_X1_hold 0 rfl rfl (kX1_hold K ad S X s d (trR i d.toNatClampNeg) c4_1 (isLd_nn c11_2)) rfl rfl (Nat.le_of_ble_eq_true rfl) ⟨Nat.le_of_ble_eq_true rfl, Nat.le_of_ble_eq_true rfl⟩ ⟨Nat.zero_le _, Nat.zero_le _⟩ (fun _ => ?_)
          exact hR _ _ _ _ () dX1_born_38 (by rw [cBorn, c4_1, cond_true, c11_2, cond_true, if_neg c15_3, if_pos c22_4] <;> rfl) (by show _ = cW K ad (cBorn S s d i).2 X; rw [cBorn, c4_1, cond_true, c11_2, cond_true, if_neg c15_3, if_pos c22_4] <;> rfl)
        · skip
          refine g_iconst (v := (-1)) C dX1_born_25 (by decide) ?_
          exact hR _ _ _ _ () dX1_born_26 (by rw [cBorn, c4_1, cond_true, c11_2, cond_true, if_neg c15_3, if_neg c22_4] <;> rfl) (by show _ = cW K ad (cBorn S s d i).2 X; rw [cBorn, c4_1, cond_true, c11_2, cond_true, if_neg c15_3, if_neg c22_4] <;> rfl)

set_option maxHeartbeats 600000 in
set_option maxRecDepth 100000 in
theorem kX1_countLess (K : KT) (ad : Nat → Nat) (S : CS) (X : va_W) (s : Int32) (d0 : Int32) (hs : isReg s = true) (hd : ∃ k : Nat, k ≤ 24 ∧ dyC S s = nI k) (hdy : ∃ k : Nat, k ≤ 20 ∧ d0 = nI k) : ∀ lau : Launch, Con lau yX1_countLess cX1_countLess 5 (some .int) 2 42 K (cW K ad S X) (fun _ : Unit => cW K ad S X) [.ref (ad 0), .int s, .int d0] (some (.int (cCL S s d0))) := by
  refine conI (by decide) (Nat.le_of_ble_eq_true rfl) (fun E C hR => ?_)
  show G E K 0 0 (cW K ad S X) [(0, .ref (ad 0)), (1, .int s), (2, .int d0)] 0 []
  refine g_iconst (v := 0) C dX1_countLess_0 (by decide) ?_
  refine g_istore_n (i := 3) (lv2 := [(0, .ref (ad 0)), (1, .int s), (2, .int d0), (3, .int 0)]) C dX1_countLess_1 rfl (by decide) rfl ?_
  refine g_iconst (v := 0) C dX1_countLess_2 (by decide) ?_
  refine g_istore (lv2 := [(0, .ref (ad 0)), (1, .int s), (2, .int d0), (3, .int 0), (4, .int 0)]) C dX1_countLess_3 (by decide) rfl ?_
  obtain ⟨k, hk, ek⟩ := hd
  obtain ⟨d, hdd, rfl⟩ := hdy
  have lo : ∀ (fuel : Nat) (i : Nat) (a : Int32), i ≤ min k (d + 1) → min k (d + 1) < i + fuel → a = clL (sgC S s) (nI d) i → G E K 0 0 (cW K ad S X) [(0, .ref (ad 0)), (1, .int s), (2, .int (nI d)), (3, .int a), (4, .int (nI i))] 5 [] := by
    intro fuel
    induction fuel with
    | zero =>
      intro i a hlo0 hlo1 hlo2
      omega
    | succ fuel ihlo =>
      intro i a hlo0 hlo1 hlo2
      refine g_iload C dX1_countLess_5 rfl ?_
      refine g_aload_n (i := 0) C dX1_countLess_7 rfl rfl ?_
      refine g_get C dX1_countLess_8 fl_X1_9 0 rfl rfl ?_
      refine g_iload_n (i := 1) C dX1_countLess_11 rfl rfl ?_
      refine g_iald C dX1_countLess_12 1 rfl (isReg_in hs) ?_
      refine g_icmp_ge (tgt := 51) C dX1_countLess_13 (by decide) (fun c13_1 => ?_) (fun c13_1 => ?_)
      · skip
        rw [show S.2.2.1 s.toNatClampNeg = nI k from ek] at c13_1
        have ei : i = min k (d + 1) := by have := nle c13_1 (by omega) (by omega); omega
        refine g_aload_n (i := 0) C dX1_countLess_51 rfl rfl ?_
        refine g_get C dX1_countLess_52 fl_X1_9 0 rfl rfl ?_
        refine g_iload_n (i := 1) C dX1_countLess_55 rfl rfl ?_
        refine g_iald C dX1_countLess_56 1 rfl (isReg_in hs) ?_
        refine g_iload_n (i := 2) C dX1_countLess_57 rfl rfl ?_
        refine g_icmp_gt (tgt := 75) C dX1_countLess_58 (by decide) (fun c58_2 => ?_) (fun c58_2 => ?_)
        · skip
          refine g_iload_n (i := 3) C dX1_countLess_75 rfl rfl ?_
          exact hR _ _ _ _ () dX1_countLess_76 (by rw [cCL, if_pos (show nI d < dyC S s from c58_2), show dyC S s = nI k from ek, nI_clamp (by omega), nI_clamp (by omega), ← ei, ← hlo2] <;> (try rw [← ek]) <;> rfl) (rfl)
        · skip
          refine g_iload_n (i := 3) C dX1_countLess_61 rfl rfl ?_
          refine g_iload_n (i := 2) C dX1_countLess_62 rfl rfl ?_
          refine g_aload_n (i := 0) C dX1_countLess_63 rfl rfl ?_
          refine g_get C dX1_countLess_64 fl_X1_9 0 rfl rfl ?_
          refine g_iload_n (i := 1) C dX1_countLess_67 rfl rfl ?_
          refine g_iald C dX1_countLess_68 1 rfl (isReg_in hs) ?_
          refine g_isub C dX1_countLess_69 ?_
          refine g_callS (av := [.int ((nI d) - (S.2.2.1 s.toNatClampNeg))]) C dX1_countLess_70 ln_X1_75 mf_X1_lowBits (kX1_lowBits K (cW K ad S X) ((nI d) - (S.2.2.1 s.toNatClampNeg))) rfl rfl (Nat.le_of_ble_eq_true rfl) ⟨Nat.le_of_ble_eq_true rfl, Nat.le_of_ble_eq_true rfl⟩ ⟨Nat.zero_le _, Nat.zero_le _⟩ (fun _ => ?_)
          refine g_iadd C dX1_countLess_73 ?_
          refine g_istore_n (i := 3) (lv2 := [(0, .ref (ad 0)), (1, .int s), (2, .int (nI d)), (3, .int (a + (lowB ((nI d) - (S.2.2.1 s.toNatClampNeg))))), (4, .int (nI i))]) C dX1_countLess_74 rfl (by decide) rfl ?_
          refine g_iload_n (i := 3) C dX1_countLess_75 rfl rfl ?_
          exact hR _ _ _ _ () dX1_countLess_76 (by rw [cCL, if_neg (show ¬ nI d < dyC S s from c58_2), show dyC S s = nI k from ek, nI_clamp (by omega), nI_clamp (by omega), ← ei, ← hlo2] <;> (try rw [← ek]) <;> rfl) (rfl)
      · skip
        rw [show S.2.2.1 s.toNatClampNeg = nI k from ek] at c13_1
        have ei1 : i < k := nlt c13_1 (by omega) (by omega)
        refine g_iload C dX1_countLess_16 rfl ?_
        refine g_iload_n (i := 2) C dX1_countLess_18 rfl rfl ?_
        refine g_icmp_gt (tgt := 51) C dX1_countLess_19 (by decide) (fun c19_3 => ?_) (fun c19_3 => ?_)
        · skip
          have ei : i = min k (d + 1) := by have : d < i := (nI_ltI (by omega) (by omega)).mp c19_3; omega
          refine g_aload_n (i := 0) C dX1_countLess_51 rfl rfl ?_
          refine g_get C dX1_countLess_52 fl_X1_9 0 rfl rfl ?_
          refine g_iload_n (i := 1) C dX1_countLess_55 rfl rfl ?_
          refine g_iald C dX1_countLess_56 1 rfl (isReg_in hs) ?_
          refine g_iload_n (i := 2) C dX1_countLess_57 rfl rfl ?_
          refine g_icmp_gt (tgt := 75) C dX1_countLess_58 (by decide) (fun c58_4 => ?_) (fun c58_4 => ?_)
          · skip
            refine g_iload_n (i := 3) C dX1_countLess_75 rfl rfl ?_
            exact hR _ _ _ _ () dX1_countLess_76 (by rw [cCL, if_pos (show nI d < dyC S s from c58_4), show dyC S s = nI k from ek, nI_clamp (by omega), nI_clamp (by omega), ← ei, ← hlo2] <;> (try rw [← ek]) <;> rfl) (rfl)
          · skip
            refine g_iload_n (i := 3) C dX1_countLess_61 rfl rfl ?_
            refine g_iload_n (i := 2) C dX1_countLess_62 rfl rfl ?_
            refine g_aload_n (i := 0) C dX1_countLess_63 rfl rfl ?_
            refine g_get C dX1_countLess_64 fl_X1_9 0 rfl rfl ?_
            refine g_iload_n (i := 1) C dX1_countLess_67 rfl rfl ?_
            refine g_iald C dX1_countLess_68 1 rfl (isReg_in hs) ?_
            refine g_isub C dX1_countLess_69 ?_
            refine g_callS (av := [.int ((nI d) - (S.2.2.1 s.toNatClampNeg))]) C dX1_countLess_70 ln_X1_75 mf_X1_lowBits (kX1_lowBits K (cW K ad S X) ((nI d) - (S.2.2.1 s.toNatClampNeg))) rfl rfl (Nat.le_of_ble_eq_true rfl) ⟨Nat.le_of_ble_eq_true rfl, Nat.le_of_ble_eq_true rfl⟩ ⟨Nat.zero_le _, Nat.zero_le _⟩ (fun _ => ?_)
            refine g_iadd C dX1_countLess_73 ?_
            refine g_istore_n (i := 3) (lv2 := [(0, .ref (ad 0)), (1, .int s), (2, .int (nI d)), (3, .int (a + (lowB ((nI d) - (S.2.2.1 s.toNatClampNeg))))), (4, .int (nI i))]) C dX1_countLess_74 rfl (by decide) rfl ?_
            refine g_iload_n (i := 3) C dX1_countLess_75 rfl rfl ?_
            exact hR _ _ _ _ () dX1_countLess_76 (by rw [cCL, if_neg (show ¬ nI d < dyC S s from c58_4), show dyC S s = nI k from ek, nI_clamp (by omega), nI_clamp (by omega), ← ei, ← hlo2] <;> (try rw [← ek]) <;> rfl) (rfl)
        · skip
          have ei2 : i ≤ d := Nat.le_of_not_lt (fun q => c19_3 (nI_lt q (by omega)))
          refine g_aload_n (i := 0) C dX1_countLess_22 rfl rfl ?_
          refine g_get C dX1_countLess_23 fl_X1_13 0 rfl rfl ?_
          refine g_iload_n (i := 1) C dX1_countLess_26 rfl rfl ?_
          refine g_iald C dX1_countLess_27 2 rfl (isReg_in hs) ?_
          refine g_iload C dX1_countLess_28 rfl ?_
          refine g_callS (av := [.int (S.2.2.2.1 s.toNatClampNeg), .int (nI i)]) C dX1_countLess_30 ln_X1_57 mf_X1_isPlus (kX1_isPlus K (cW K ad S X) (S.2.2.2.1 s.toNatClampNeg) (nI i)) rfl rfl (Nat.le_of_ble_eq_true rfl) ⟨Nat.le_of_ble_eq_true rfl, Nat.le_of_ble_eq_true rfl⟩ ⟨Nat.zero_le _, Nat.zero_le _⟩ (fun _ => ?_)
          refine g_bz_eq (tgt := 45) C dX1_countLess_33 (by decide) (fun c33_5 => ?_) (fun c33_5 => ?_)
          · skip
            refine g_iinc (v := nI (i + 1)) (lv2 := [(0, .ref (ad 0)), (1, .int s), (2, .int (nI d)), (3, .int a), (4, .int (nI (i + 1)))]) C dX1_countLess_45 rfl (nI_inc i) (by decide) rfl ?_
            refine g_goto (tgt := 5) C dX1_countLess_48 (by decide) ?_
            exact g_lvs [0, 1, 2, 3, 4] rfl (ihlo (i + 1) _ (by omega) (by omega) (by rw [clL, show tb (sgC S s) (nI i) = false from c33_5, cond_false, hlo2]))
          · skip
            refine g_iload_n (i := 3) C dX1_countLess_36 rfl rfl ?_
            refine g_iconst (v := 1) C dX1_countLess_37 (by decide) ?_
            refine g_iload_n (i := 2) C dX1_countLess_38 rfl rfl ?_
            refine g_iload C dX1_countLess_39 rfl ?_
            refine g_isub C dX1_countLess_41 ?_
            refine g_ishl C dX1_countLess_42 ?_
            refine g_iadd C dX1_countLess_43 ?_
            refine g_istore_n (i := 3) (lv2 := [(0, .ref (ad 0)), (1, .int s), (2, .int (nI d)), (3, .int (a + (1 <<< (((nI d) - (nI i)) &&& 31)))), (4, .int (nI i))]) C dX1_countLess_44 rfl (by decide) rfl ?_
            refine g_iinc (v := nI (i + 1)) (lv2 := [(0, .ref (ad 0)), (1, .int s), (2, .int (nI d)), (3, .int (a + (1 <<< (((nI d) - (nI i)) &&& 31)))), (4, .int (nI (i + 1)))]) C dX1_countLess_45 rfl (nI_inc i) (by decide) rfl ?_
            refine g_goto (tgt := 5) C dX1_countLess_48 (by decide) ?_
            exact g_lvs [0, 1, 2, 3, 4] rfl (ihlo (i + 1) _ (by omega) (by omega) (by rw [clL, show tb (sgC S s) (nI i) = true from c33_5, cond_true, hlo2]))
  exact g_lvs [0, 1, 2, 3, 4] rfl (lo (min k (d + 1) + 1) 0 0 (by omega) (by omega) rfl)

set_option maxHeartbeats 600000 in
set_option maxRecDepth 100000 in
theorem kX1_between (K : KT) (ad : Nat → Nat) (S : CS) (X : va_W) (s : Int32) (t : Int32) (d : Int32) (hd : ∀ q : Int32, isReg q = true → ∃ k : Nat, k ≤ 24 ∧ dyC S q = nI k) : ∀ lau : Launch, Con lau yX1_between cX1_between 5 (some .int) 3 66 K (cW K ad S X) (fun _ : Unit => cW K ad S X) [.ref (ad 0), .int s, .int t, .int d] (some (.int (cBet S s t d))) := by
  refine conI (by decide) (Nat.le_of_ble_eq_true rfl) (fun E C hR => ?_)
  show G E K 0 0 (cW K ad S X) [(0, .ref (ad 0)), (1, .int s), (2, .int t), (3, .int d)] 0 []
  refine g_iload_n (i := 1) C dX1_between_0 rfl rfl ?_
  refine g_callS (av := [.int s]) C dX1_between_1 ln_X1_41 mf_X1_isRegister (kX1_isRegister K (cW K ad S X) s) rfl rfl (Nat.le_of_ble_eq_true rfl) ⟨Nat.le_of_ble_eq_true rfl, Nat.le_of_ble_eq_true rfl⟩ ⟨Nat.zero_le _, Nat.zero_le _⟩ (fun _ => ?_)
  refine g_bz_eq (tgt := 21) C dX1_between_4 (by decide) (fun c4_1 => ?_) (fun c4_1 => ?_)
  · skip
    refine g_iconst (v := (-1)) C dX1_between_21 (by decide) ?_
    exact hR _ _ _ _ () dX1_between_22 (by rw [cBet, c4_1, cond_false] <;> rfl) (rfl)
  · skip
    refine g_iload_n (i := 2) C dX1_between_7 rfl rfl ?_
    refine g_callS (av := [.int t]) C dX1_between_8 ln_X1_41 mf_X1_isRegister (kX1_isRegister K (cW K ad S X) t) rfl rfl (Nat.le_of_ble_eq_true rfl) ⟨Nat.le_of_ble_eq_true rfl, Nat.le_of_ble_eq_true rfl⟩ ⟨Nat.zero_le _, Nat.zero_le _⟩ (fun _ => ?_)
    refine g_bz_eq (tgt := 21) C dX1_between_11 (by decide) (fun c11_2 => ?_) (fun c11_2 => ?_)
    · skip
      refine g_iconst (v := (-1)) C dX1_between_21 (by decide) ?_
      exact hR _ _ _ _ () dX1_between_22 (by rw [cBet, c4_1, cond_true, c11_2, cond_false] <;> rfl) (rfl)
    · skip
      refine g_iload_n (i := 3) C dX1_between_14 rfl rfl ?_
      refine g_callS (av := [.int d]) C dX1_between_15 ln_X1_96 mf_X1_isListedDay (kX1_isListedDay K (cW K ad S X) d) rfl rfl (Nat.le_of_ble_eq_true rfl) ⟨Nat.le_of_ble_eq_true rfl, Nat.le_of_ble_eq_true rfl⟩ ⟨Nat.zero_le _, Nat.zero_le _⟩ (fun _ => ?_)
      refine g_bz_ne (tgt := 23) C dX1_between_18 (by decide) (fun c18_3 => ?_) (fun c18_3 => ?_)
      · skip
        refine g_aload_n (i := 0) C dX1_between_23 rfl rfl ?_
        refine g_get C dX1_between_24 fl_X1_16 0 rfl rfl ?_
        refine g_iload_n (i := 1) C dX1_between_27 rfl rfl ?_
        refine g_lald C dX1_between_28 3 rfl (isReg_in c4_1) ?_
        refine g_aload_n (i := 0) C dX1_between_29 rfl rfl ?_
        refine g_get C dX1_between_30 fl_X1_16 0 rfl rfl ?_
        refine g_iload_n (i := 2) C dX1_between_33 rfl rfl ?_
        refine g_lald C dX1_between_34 3 rfl (isReg_in c11_2) ?_
        refine g_lcmp_lt (tgt := 42) C dX1_between_35 dX1_between_36 (by decide) (fun c35_4 => ?_) (fun c35_4 => ?_)
        · skip
          refine g_aload_n (i := 0) C dX1_between_42 rfl rfl ?_
          refine g_get C dX1_between_43 fl_X1_9 0 rfl rfl ?_
          refine g_iload_n (i := 1) C dX1_between_46 rfl rfl ?_
          refine g_iald C dX1_between_47 1 rfl (isReg_in c4_1) ?_
          refine g_iload_n (i := 3) C dX1_between_48 rfl rfl ?_
          refine g_dia_icmp_gt (tgt := 56) C dX1_between_49 dX1_between_52 dX1_between_53 dX1_between_56 (by decide) (by decide) trivial ?_
          refine g_istore (lv2 := [(0, .ref (ad 0)), (1, .int s), (2, .int t), (3, .int d), (4, .int (bz (decide ((S.2.2.1 s.toNatClampNeg) ≤ d))))]) C dX1_between_57 (by decide) rfl ?_
          refine g_aload_n (i := 0) C dX1_between_59 rfl rfl ?_
          refine g_iload_n (i := 2) C dX1_between_60 rfl rfl ?_
          refine g_iload_n (i := 3) C dX1_between_61 rfl rfl ?_
          refine g_callV (av := [.int t, .int d]) C dX1_between_62 ln_X1_103 mf_X1_countLess 0 rfl rfl (kX1_countLess K ad S X t d c11_2 (hd _ c11_2) (isLd_k c18_3)) rfl rfl (Nat.le_of_ble_eq_true rfl) ⟨Nat.le_of_ble_eq_true rfl, Nat.le_of_ble_eq_true rfl⟩ ⟨Nat.zero_le _, Nat.zero_le _⟩ (fun _ => ?_)
          refine g_aload_n (i := 0) C dX1_between_65 rfl rfl ?_
          refine g_iload_n (i := 1) C dX1_between_66 rfl rfl ?_
          refine g_iload_n (i := 3) C dX1_between_67 rfl rfl ?_
          refine g_callV (av := [.int s, .int d]) C dX1_between_68 ln_X1_103 mf_X1_countLess 0 rfl rfl (kX1_countLess K ad S X s d c4_1 (hd _ c4_1) (isLd_k c18_3)) rfl rfl (Nat.le_of_ble_eq_true rfl) ⟨Nat.le_of_ble_eq_true rfl, Nat.le_of_ble_eq_true rfl⟩ ⟨Nat.zero_le _, Nat.zero_le _⟩ (fun _ => ?_)
          refine g_isub C dX1_between_71 ?_
          refine g_iload C dX1_between_72 rfl ?_
          refine g_isub C dX1_between_74 ?_
          exact hR _ _ _ _ () dX1_between_75 (by rw [cBet, c4_1, cond_true, c11_2, cond_true, c18_3, cond_true, if_pos c35_4] <;> rfl) (rfl)
        · skip
          refine g_bipush (v := (-2)) C dX1_between_39 (by decide) ?_
          exact hR _ _ _ _ () dX1_between_41 (by rw [cBet, c4_1, cond_true, c11_2, cond_true, c18_3, cond_true, if_neg c35_4] <;> rfl) (rfl)
      · skip
        refine g_iconst (v := (-1)) C dX1_between_21 (by decide) ?_
        exact hR _ _ _ _ () dX1_between_22 (by rw [cBet, c4_1, cond_true, c11_2, cond_true, c18_3, cond_false] <;> rfl) (rfl)

set_option maxHeartbeats 600000 in
set_option maxRecDepth 100000 in
theorem kX1_wins (K : KT) (ad : Nat → Nat) (S : CS) (X : va_W) (x : Int32) (w : Int32) : ∀ lau : Launch, Con lau yX1_wins cX1_wins 7 (some .int) 1 21 K (cW K ad S X) (fun _ : Unit => cW K ad S X) [.ref (ad 0), .int x, .int w] (some (.int (cWins S x w))) := by
  refine conI (by decide) (Nat.le_of_ble_eq_true rfl) (fun E C hR => ?_)
  show G E K 0 0 (cW K ad S X) [(0, .ref (ad 0)), (1, .int x), (2, .int w)] 0 []
  refine g_iload_n (i := 1) C dX1_wins_0 rfl rfl ?_
  refine g_callS (av := [.int x]) C dX1_wins_1 ln_X1_79 mf_X1_areRegisters (kX1_areRegisters K (cW K ad S X) x) rfl rfl (Nat.le_of_ble_eq_true rfl) ⟨Nat.le_of_ble_eq_true rfl, Nat.le_of_ble_eq_true rfl⟩ ⟨Nat.zero_le _, Nat.zero_le _⟩ (fun _ => ?_)
  refine g_bz_eq (tgt := 16) C dX1_wins_4 (by decide) (fun c4_1 => ?_) (fun c4_1 => ?_)
  · skip
    refine g_iconst (v := (-1)) C dX1_wins_16 (by decide) ?_
    exact hR _ _ _ _ () dX1_wins_17 (by rw [cWins, c4_1, cond_false] <;> rfl) (rfl)
  · skip
    refine g_iload_n (i := 2) C dX1_wins_7 rfl rfl ?_
    refine g_if_lt (tgt := 16) C dX1_wins_8 (by decide) (fun c8_2 => ?_) (fun c8_2 => ?_)
    · skip
      refine g_iconst (v := (-1)) C dX1_wins_16 (by decide) ?_
      exact hR _ _ _ _ () dX1_wins_17 (by rw [cWins, c4_1, cond_true, if_pos c8_2] <;> rfl) (rfl)
    · skip
      refine g_iload_n (i := 2) C dX1_wins_11 rfl rfl ?_
      refine g_iconst (v := 1) C dX1_wins_12 (by decide) ?_
      refine g_icmp_le (tgt := 18) C dX1_wins_13 (by decide) (fun c13_3 => ?_) (fun c13_3 => ?_)
      · skip
        refine g_iconst (v := 0) C dX1_wins_18 (by decide) ?_
        refine g_istore_n (i := 3) (lv2 := [(0, .ref (ad 0)), (1, .int x), (2, .int w), (3, .int 0)]) C dX1_wins_19 rfl (by decide) rfl ?_
        refine g_lconst (v := 0) C dX1_wins_20 (by decide) ?_
        refine g_lstore (lv2 := [(0, .ref (ad 0)), (1, .int x), (2, .int w), (3, .int 0), (4, .long 0)]) C dX1_wins_21 (by decide) rfl ?_
        refine g_iconst (v := 0) C dX1_wins_23 (by decide) ?_
        refine g_istore (lv2 := [(0, .ref (ad 0)), (1, .int x), (2, .int w), (3, .int 0), (4, .long 0), (6, .int 0)]) C dX1_wins_24 (by decide) rfl ?_
        have lo : ∀ (fuel : Nat) (i : Nat) (g : Int32) (a : Int64), i ≤ 12 → 12 < i + fuel → wnL S x i = (g, a) → G E K 0 0 (cW K ad S X) [(0, .ref (ad 0)), (1, .int x), (2, .int w), (3, .int g), (4, .long a), (6, .int (nI i))] 26 [] := by
          intro fuel
          induction fuel with
          | zero =>
            intro i g a hlo0 hlo1 hlo2
            omega
          | succ fuel ihlo =>
            intro i g a hlo0 hlo1 hlo2
            refine g_iload C dX1_wins_26 rfl ?_
            refine g_bipush (v := 12) C dX1_wins_28 (by decide) ?_
            refine g_icmp_ge (tgt := 70) C dX1_wins_30 (by decide) (fun c30_4 => ?_) (fun c30_4 => ?_)
            · skip
              have ei : i = 12 := by have := nle (a := 12) c30_4 (by decide) (by omega); omega
              refine g_iload_n (i := 1) C dX1_wins_70 rfl rfl ?_
              refine g_callS (av := [.int x]) C dX1_wins_71 ln_X1_109 mf_J6_bitCount_0f7a4 (kJ6_bitCount_0f7a4 K (cW K ad S X) x) rfl rfl (Nat.le_of_ble_eq_true rfl) ⟨Nat.le_of_ble_eq_true rfl, Nat.le_of_ble_eq_true rfl⟩ ⟨Nat.zero_le _, Nat.zero_le _⟩ (fun _ => ?_)
              refine g_iconst (v := 4) C dX1_wins_74 (by decide) ?_
              refine g_icmp_gt (tgt := 84) C dX1_wins_75 (by decide) (fun c75_5 => ?_) (fun c75_5 => ?_)
              · skip
                refine g_bipush (v := (-2)) C dX1_wins_84 (by decide) ?_
                exact hR _ _ _ _ () dX1_wins_86 (by subst ei; rw [cWins, hlo2, c4_1, cond_true, if_neg c8_2, if_pos c13_3, if_pos c75_5]) (rfl)
              · skip
                refine g_iload_n (i := 3) C dX1_wins_78 rfl rfl ?_
                refine g_bipush (v := 14) C dX1_wins_79 (by decide) ?_
                refine g_icmp_le (tgt := 87) C dX1_wins_81 (by decide) (fun c81_6 => ?_) (fun c81_6 => ?_)
                · skip
                  refine g_iload_n (i := 2) C dX1_wins_87 rfl rfl ?_
                  refine g_if_ne (tgt := 106) C dX1_wins_88 (by decide) (fun c88_7 => ?_) (fun c88_7 => ?_)
                  · skip
                    refine g_lload C dX1_wins_106 rfl ?_
                    refine g_lconst (v := 0) C dX1_wins_108 (by decide) ?_
                    refine g_dia_lcmp_ge (tgt := 117) C dX1_wins_109 dX1_wins_110 dX1_wins_113 dX1_wins_114 dX1_wins_117 (by decide) (by decide) trivial ?_
                    refine g_istore (lv2 := [(0, .ref (ad 0)), (1, .int x), (2, .int w), (3, .int g), (4, .long a), (6, .int (bz (decide (a < 0))))]) C dX1_wins_118 (by decide) rfl ?_
                    refine g_iload C dX1_wins_120 rfl ?_
                    refine g_bz_eq (tgt := 129) C dX1_wins_122 (by decide) (fun c122_8 => ?_) (fun c122_8 => ?_)
                    · skip
                      refine g_iconst (v := 0) C dX1_wins_129 (by decide) ?_
                      exact hR _ _ _ _ () dX1_wins_130 (by subst ei; rw [cWins, hlo2, c4_1, cond_true, if_neg c8_2, if_pos c13_3, if_neg c75_5, if_pos c81_6, if_neg c88_7, c122_8, cond_false]) (rfl)
                    · skip
                      refine g_iconst (v := 1) C dX1_wins_125 (by decide) ?_
                      refine g_goto (tgt := 130) C dX1_wins_126 (by decide) ?_
                      exact hR _ _ _ _ () dX1_wins_130 (by subst ei; rw [cWins, hlo2, c4_1, cond_true, if_neg c8_2, if_pos c13_3, if_neg c75_5, if_pos c81_6, if_neg c88_7, c122_8, cond_true]) (rfl)
                  · skip
                    refine g_lload C dX1_wins_91 rfl ?_
                    refine g_lconst (v := 0) C dX1_wins_93 (by decide) ?_
                    refine g_lcmp_le (tgt := 102) C dX1_wins_94 dX1_wins_95 (by decide) (fun c94_9 => ?_) (fun c94_9 => ?_)
                    · skip
                      refine g_iconst (v := 0) C dX1_wins_102 (by decide) ?_
                      refine g_goto (tgt := 118) C dX1_wins_103 (by decide) ?_
                      refine g_istore (lv2 := [(0, .ref (ad 0)), (1, .int x), (2, .int w), (3, .int g), (4, .long a), (6, .int 0)]) C dX1_wins_118 (by decide) rfl ?_
                      refine g_iload C dX1_wins_120 rfl ?_
                      refine g_if_eq (tgt := 129) C dX1_wins_122 (by decide) (fun _ => ?_) (fun q => absurd (by decide) q)
                      refine g_iconst (v := 0) C dX1_wins_129 (by decide) ?_
                      exact hR _ _ _ _ () dX1_wins_130 (by subst ei; rw [cWins, hlo2, c4_1, cond_true, if_neg c8_2, if_pos c13_3, if_neg c75_5, if_pos c81_6, if_pos c88_7, if_pos c94_9]) (rfl)
                    · skip
                      refine g_iconst (v := 1) C dX1_wins_98 (by decide) ?_
                      refine g_goto (tgt := 118) C dX1_wins_99 (by decide) ?_
                      refine g_istore (lv2 := [(0, .ref (ad 0)), (1, .int x), (2, .int w), (3, .int g), (4, .long a), (6, .int 1)]) C dX1_wins_118 (by decide) rfl ?_
                      refine g_iload C dX1_wins_120 rfl ?_
                      refine g_if_eq (tgt := 129) C dX1_wins_122 (by decide) (fun q => absurd q (by decide)) (fun _ => ?_)
                      refine g_iconst (v := 1) C dX1_wins_125 (by decide) ?_
                      refine g_goto (tgt := 130) C dX1_wins_126 (by decide) ?_
                      exact hR _ _ _ _ () dX1_wins_130 (by subst ei; rw [cWins, hlo2, c4_1, cond_true, if_neg c8_2, if_pos c13_3, if_neg c75_5, if_pos c81_6, if_pos c88_7, if_neg c94_9]) (rfl)
                · skip
                  refine g_bipush (v := (-2)) C dX1_wins_84 (by decide) ?_
                  exact hR _ _ _ _ () dX1_wins_86 (by subst ei; rw [cWins, hlo2, c4_1, cond_true, if_neg c8_2, if_pos c13_3, if_neg c75_5, if_neg c81_6]) (rfl)
            · skip
              have ei : i < 12 := nlt (a := 12) c30_4 (by decide) (by omega)
              refine g_iload_n (i := 1) C dX1_wins_33 rfl rfl ?_
              refine g_iload C dX1_wins_34 rfl ?_
              refine g_callS (av := [.int x, .int (nI i)]) C dX1_wins_36 ln_X1_106 mf_X1_has (kX1_has K (cW K ad S X) x (nI i)) rfl rfl (Nat.le_of_ble_eq_true rfl) ⟨Nat.le_of_ble_eq_true rfl, Nat.le_of_ble_eq_true rfl⟩ ⟨Nat.zero_le _, Nat.zero_le _⟩ (fun _ => ?_)
              refine g_bz_eq (tgt := 64) C dX1_wins_39 (by decide) (fun c39_10 => ?_) (fun c39_10 => ?_)
              · skip
                refine g_iinc (v := nI (i + 1)) (lv2 := [(0, .ref (ad 0)), (1, .int x), (2, .int w), (3, .int g), (4, .long a), (6, .int (nI (i + 1)))]) C dX1_wins_64 rfl (nI_inc i) (by decide) rfl ?_
                refine g_goto (tgt := 26) C dX1_wins_67 (by decide) ?_
                exact g_lvs [0, 1, 2, 3, 4, 5] rfl (ihlo (i + 1) _ _ (by omega) (by omega) (by rw [wnL, c39_10, cond_false, hlo2]))
              · skip
                refine g_iload_n (i := 3) C dX1_wins_42 rfl rfl ?_
                refine g_aload_n (i := 0) C dX1_wins_43 rfl rfl ?_
                refine g_get C dX1_wins_44 fl_X1_9 0 rfl rfl ?_
                refine g_iload C dX1_wins_47 rfl ?_
                refine g_iald C dX1_wins_49 1 rfl (vp_in_nI (by omega) (by decide)) ?_
                refine g_eqi (congrArg S.2.2.1 (nI_clamp (by omega))) ?_
                refine g_iadd C dX1_wins_50 ?_
                refine g_istore_n (i := 3) (lv2 := [(0, .ref (ad 0)), (1, .int x), (2, .int w), (3, .int (g + (S.2.2.1 i))), (4, .long a), (6, .int (nI i))]) C dX1_wins_51 rfl (by decide) rfl ?_
                refine g_lload C dX1_wins_52 rfl ?_
                refine g_aload_n (i := 0) C dX1_wins_54 rfl rfl ?_
                refine g_get C dX1_wins_55 fl_X1_16 0 rfl rfl ?_
                refine g_iload C dX1_wins_58 rfl ?_
                refine g_lald C dX1_wins_60 3 rfl (vp_in_nI (by omega) (by decide)) ?_
                refine g_eql (congrArg S.2.2.2.2.1 (nI_clamp (by omega))) ?_
                refine g_ladd C dX1_wins_61 ?_
                refine g_lstore (lv2 := [(0, .ref (ad 0)), (1, .int x), (2, .int w), (3, .int (g + (S.2.2.1 i))), (4, .long (a + (S.2.2.2.2.1 i))), (6, .int (nI i))]) C dX1_wins_62 (by decide) rfl ?_
                refine g_iinc (v := nI (i + 1)) (lv2 := [(0, .ref (ad 0)), (1, .int x), (2, .int w), (3, .int (g + (S.2.2.1 i))), (4, .long (a + (S.2.2.2.2.1 i))), (6, .int (nI (i + 1)))]) C dX1_wins_64 rfl (nI_inc i) (by decide) rfl ?_
                refine g_goto (tgt := 26) C dX1_wins_67 (by decide) ?_
                exact g_lvs [0, 1, 2, 3, 4, 5] rfl (ihlo (i + 1) _ _ (by omega) (by omega) (by rw [wnL, c39_10, cond_true, hlo2]))
        exact g_lvs [0, 1, 2, 3, 4, 5] rfl (lo 13 0 0 0 (by omega) (by omega) rfl)
      · skip
        refine g_iconst (v := (-1)) C dX1_wins_16 (by decide) ?_
        exact hR _ _ _ _ () dX1_wins_17 (by rw [cWins, c4_1, cond_true, if_neg c8_2, if_neg c13_3] <;> rfl) (rfl)

set_option maxHeartbeats 600000 in
set_option maxRecDepth 100000 in
theorem kX1_side (K : KT) (ad : Nat → Nat) (S : CS) (X : va_W) (s : Int32) (t : Int32) (d : Int32) (hd : ∀ q : Int32, isReg q = true → ∃ k : Nat, k ≤ 24 ∧ dyC S q = nI k) : ∀ lau : Launch, Con lau yX1_side cX1_side 6 (some .int) 4 94 K (cW K ad S X) (fun _ : Unit => cW K ad ((cSide S s t d).2) X) [.ref (ad 0), .int s, .int t, .int d] (some (.int ((cSide S s t d).1))) := by
  refine conI (by decide) (Nat.le_of_ble_eq_true rfl) (fun E C hR => ?_)
  show G E K 0 0 (cW K ad S X) [(0, .ref (ad 0)), (1, .int s), (2, .int t), (3, .int d)] 0 []
  refine g_iload_n (i := 1) C dX1_side_0 rfl rfl ?_
  refine g_callS (av := [.int s]) C dX1_side_1 ln_X1_41 mf_X1_isRegister (kX1_isRegister K (cW K ad S X) s) rfl rfl (Nat.le_of_ble_eq_true rfl) ⟨Nat.le_of_ble_eq_true rfl, Nat.le_of_ble_eq_true rfl⟩ ⟨Nat.zero_le _, Nat.zero_le _⟩ (fun _ => ?_)
  refine g_bz_eq (tgt := 23) C dX1_side_4 (by decide) (fun c4_1 => ?_) (fun c4_1 => ?_)
  · skip
    refine g_iconst (v := (-1)) C dX1_side_23 (by decide) ?_
    exact hR _ _ _ _ () dX1_side_24 (by rw [cSide, c4_1, cond_false] <;> rfl) (by show _ = cW K ad (cSide S s t d).2 X; rw [cSide, c4_1, cond_false] <;> rfl)
  · skip
    refine g_iload_n (i := 2) C dX1_side_7 rfl rfl ?_
    refine g_callS (av := [.int t]) C dX1_side_8 ln_X1_41 mf_X1_isRegister (kX1_isRegister K (cW K ad S X) t) rfl rfl (Nat.le_of_ble_eq_true rfl) ⟨Nat.le_of_ble_eq_true rfl, Nat.le_of_ble_eq_true rfl⟩ ⟨Nat.zero_le _, Nat.zero_le _⟩ (fun _ => ?_)
    refine g_bz_eq (tgt := 23) C dX1_side_11 (by decide) (fun c11_2 => ?_) (fun c11_2 => ?_)
    · skip
      refine g_iconst (v := (-1)) C dX1_side_23 (by decide) ?_
      exact hR _ _ _ _ () dX1_side_24 (by rw [cSide, c4_1, cond_true, c11_2, cond_false] <;> rfl) (by show _ = cW K ad (cSide S s t d).2 X; rw [cSide, c4_1, cond_true, c11_2, cond_false] <;> rfl)
    · skip
      refine g_iload_n (i := 3) C dX1_side_14 rfl rfl ?_
      refine g_if_lt (tgt := 23) C dX1_side_15 (by decide) (fun c15_3 => ?_) (fun c15_3 => ?_)
      · skip
        refine g_iconst (v := (-1)) C dX1_side_23 (by decide) ?_
        exact hR _ _ _ _ () dX1_side_24 (by rw [cSide, c4_1, cond_true, c11_2, cond_true, if_pos c15_3] <;> rfl) (by show _ = cW K ad (cSide S s t d).2 X; rw [cSide, c4_1, cond_true, c11_2, cond_true, if_pos c15_3] <;> rfl)
      · skip
        refine g_iload_n (i := 3) C dX1_side_18 rfl rfl ?_
        refine g_iconst (v := 1) C dX1_side_19 (by decide) ?_
        refine g_icmp_le (tgt := 25) C dX1_side_20 (by decide) (fun c20_4 => ?_) (fun c20_4 => ?_)
        · skip
          refine g_iload_n (i := 3) C dX1_side_25 rfl rfl ?_
          refine g_dia_if_ne (tgt := 33) C dX1_side_26 dX1_side_29 dX1_side_30 dX1_side_33 (by decide) (by decide) trivial ?_
          refine g_istore (lv2 := [(0, .ref (ad 0)), (1, .int s), (2, .int t), (3, .int d), (4, .int (bz (decide (d = 0))))]) C dX1_side_34 (by decide) rfl ?_
          refine g_aload_n (i := 0) C dX1_side_36 rfl rfl ?_
          refine g_get C dX1_side_37 fl_X1_9 0 rfl rfl ?_
          refine g_iload_n (i := 2) C dX1_side_40 rfl rfl ?_
          refine g_iald C dX1_side_41 1 rfl (isReg_in c11_2) ?_
          refine g_iconst (v := 1) C dX1_side_42 (by decide) ?_
          refine g_isub C dX1_side_43 ?_
          refine g_istore (lv2 := [(0, .ref (ad 0)), (1, .int s), (2, .int t), (3, .int d), (4, .int (bz (decide (d = 0)))), (5, .int ((S.2.2.1 t.toNatClampNeg) - 1))]) C dX1_side_44 (by decide) rfl ?_
          obtain ⟨k, hk, ek⟩ := hd t c11_2
          have lo : ∀ (fuel : Nat) (j : Nat) (v : Int32), j ≤ k → j < fuel → v = nI j - 1 → sdL (sgC S t) (decide (d = 0)) j = sdL (sgC S t) (decide (d = 0)) k → G E K 0 0 (cW K ad S X) [(0, .ref (ad 0)), (1, .int s), (2, .int t), (3, .int d), (4, .int (bz (decide (d = 0)))), (5, .int v)] 46 [] := by
            intro fuel
            induction fuel with
            | zero =>
              intro j v hlo0 hlo1 hlo2 hlo3
              omega
            | succ fuel ihlo =>
              intro j v hlo0 hlo1 hlo2 hlo3
              refine g_iload C dX1_side_46 rfl ?_
              refine g_if_lt (tgt := 93) C dX1_side_48 (by decide) (fun c48_5 => ?_) (fun c48_5 => ?_)
              · skip
                have ej : j = 0 := decn (by rw [← hlo2]; exact c48_5) (by omega)
                refine g_bipush (v := (-2)) C dX1_side_93 (by decide) ?_
                exact hR _ _ _ _ () dX1_side_95 (by subst ej; rw [cSide, c4_1, cond_true, c11_2, cond_true, if_neg c15_3, if_pos c20_4, ek, nI_clamp (by omega), ← hlo3] <;> rfl) (by show _ = cW K ad (cSide S s t d).2 X; subst ej; rw [cSide, c4_1, cond_true, c11_2, cond_true, if_neg c15_3, if_pos c20_4, ek, nI_clamp (by omega), ← hlo3] <;> rfl)
              · skip
                obtain ⟨j2, rfl⟩ := dec0 (j := j) (by rw [← hlo2]; exact c48_5)
                rw [nI_pred] at hlo2
                subst hlo2
                skip
                refine g_aload_n (i := 0) C dX1_side_51 rfl rfl ?_
                refine g_get C dX1_side_52 fl_X1_13 0 rfl rfl ?_
                refine g_iload_n (i := 2) C dX1_side_55 rfl rfl ?_
                refine g_iald C dX1_side_56 2 rfl (isReg_in c11_2) ?_
                refine g_iload C dX1_side_57 rfl ?_
                refine g_callS (av := [.int (S.2.2.2.1 t.toNatClampNeg), .int (nI j2)]) C dX1_side_59 ln_X1_57 mf_X1_isPlus (kX1_isPlus K (cW K ad S X) (S.2.2.2.1 t.toNatClampNeg) (nI j2)) rfl rfl (Nat.le_of_ble_eq_true rfl) ⟨Nat.le_of_ble_eq_true rfl, Nat.le_of_ble_eq_true rfl⟩ ⟨Nat.zero_le _, Nat.zero_le _⟩ (fun _ => ?_)
                refine g_iload C dX1_side_62 rfl ?_
                refine g_bzcmp_ne (tgt := 87) C dX1_side_64 (by decide) (fun c64_6 => ?_) (fun c64_6 => ?_)
                · skip
                  refine g_iinc (v := (nI j2) + Int32.ofInt (-1)) (lv2 := [(0, .ref (ad 0)), (1, .int s), (2, .int t), (3, .int d), (4, .int (bz (decide (d = 0)))), (5, .int ((nI j2) + Int32.ofInt (-1)))]) C dX1_side_87 rfl rfl (by decide) rfl ?_
                  refine g_goto (tgt := 46) C dX1_side_90 (by decide) ?_
                  exact g_lvs [0, 1, 2, 3, 4, 5] rfl (ihlo j2 _ (by omega) (by omega) (dec1 j2) (by rw [← hlo3, sdL, show (tb (sgC S t) (nI j2) == decide (d = 0)) = false from c64_6, cond_false]))
                · skip
                  refine g_aload_n (i := 0) C dX1_side_67 rfl rfl ?_
                  refine g_iload_n (i := 1) C dX1_side_68 rfl rfl ?_
                  refine g_iload C dX1_side_69 rfl ?_
                  refine g_aload_n (i := 0) C dX1_side_71 rfl rfl ?_
                  refine g_get C dX1_side_72 fl_X1_13 0 rfl rfl ?_
                  refine g_iload_n (i := 2) C dX1_side_75 rfl rfl ?_
                  refine g_iald C dX1_side_76 2 rfl (isReg_in c11_2) ?_
                  refine g_iload C dX1_side_77 rfl ?_
                  refine g_callS (av := [.int (nI j2)]) C dX1_side_79 ln_X1_75 mf_X1_lowBits (kX1_lowBits K (cW K ad S X) (nI j2)) rfl rfl (Nat.le_of_ble_eq_true rfl) ⟨Nat.le_of_ble_eq_true rfl, Nat.le_of_ble_eq_true rfl⟩ ⟨Nat.zero_le _, Nat.zero_le _⟩ (fun _ => ?_)
                  refine g_iand C dX1_side_82 ?_
                  refine g_callV (av := [.int s, .int (nI j2), .int ((S.2.2.2.1 t.toNatClampNeg) &&& (lowB (nI j2)))]) C dX1_side_83 ln_X1_45 mf_X1_hold 0 rfl rfl (kX1_hold K ad S X s (nI j2) ((S.2.2.2.1 t.toNatClampNeg) &&& (lowB (nI j2))) c4_1 (nI_pos (by omega))) rfl rfl (Nat.le_of_ble_eq_true rfl) ⟨Nat.le_of_ble_eq_true rfl, Nat.le_of_ble_eq_true rfl⟩ ⟨Nat.zero_le _, Nat.zero_le _⟩ (fun _ => ?_)
                  exact hR _ _ _ _ () dX1_side_86 (by rw [cSide, c4_1, cond_true, c11_2, cond_true, if_neg c15_3, if_pos c20_4, ek, nI_clamp (by omega), ← hlo3, sdL, show (tb (sgC S t) (nI j2) == decide (d = 0)) = true from c64_6, cond_true] <;> rfl) (by show _ = cW K ad (cSide S s t d).2 X; rw [cSide, c4_1, cond_true, c11_2, cond_true, if_neg c15_3, if_pos c20_4, ek, nI_clamp (by omega), ← hlo3, sdL, show (tb (sgC S t) (nI j2) == decide (d = 0)) = true from c64_6, cond_true] <;> rfl)
          exact g_lvs [0, 1, 2, 3, 4, 5] rfl (lo (k + 1) k _ (Nat.le_refl _) (by omega) (by rw [show S.2.2.1 t.toNatClampNeg = nI k from ek]) rfl)
        · skip
          refine g_iconst (v := (-1)) C dX1_side_23 (by decide) ?_
          exact hR _ _ _ _ () dX1_side_24 (by rw [cSide, c4_1, cond_true, c11_2, cond_true, if_neg c15_3, if_neg c20_4] <;> rfl) (by show _ = cW K ad (cSide S s t d).2 X; rw [cSide, c4_1, cond_true, c11_2, cond_true, if_neg c15_3, if_neg c20_4] <;> rfl)
