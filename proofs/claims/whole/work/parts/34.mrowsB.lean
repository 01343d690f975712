def sdM (x d : Int32) : Nat → Option Nat
  | 0 => none
  | n + 1 => if bz (tb x (nI n)) = 1 - d then some n else sdM x d n
def mSide (M : MSt) (s t d : Int32) : Int32 × MSt := bif isReg s then bif isReg t then bif inL d.toInt64 0 1 then (match sdM (sgM M t) d (dyM M t).toNatClampNeg with
    | none => (-2, M)
    | some n => keep (mFd M (nI n) (sgM M t &&& ((1 <<< (nI n &&& 31)) - 1))) s true) else (-1, M) else (-1, M) else (-1, M)
def fqI (M : MSt) (l r : Int32) (i : Nat) : Nat → Nat → Option Nat
  | 0, _ => none
  | f + 1, j => bif tb l (nI i) then (bif tb r (nI j) then (if wO M i < wO M j then fqI M l r i f (j + 1) else some j) else fqI M l r i f (j + 1)) else none
def fqO (M : MSt) (l r : Int32) : Nat → Nat → Option (Nat × Nat)
  | 0, _ => none
  | f + 1, i => match fqI M l r i 12 0 with
    | some j => some (i, j)
    | none => fqO M l r f (i + 1)
theorem fqI_s {M : MSt} {l r : Int32} {i j : Nat} (h : j < 12) : fqI M l r i (12 - j) j = bif tb l (nI i) then (bif tb r (nI j) then (if wO M i < wO M j then fqI M l r i (12 - (j + 1)) (j + 1) else some j) else fqI M l r i (12 - (j + 1)) (j + 1)) else none := by
  rw [show 12 - j = (12 - (j + 1)) + 1 from by omega]
  rfl
theorem fqO_n {M : MSt} {l r : Int32} {i : Nat} (h : i < 12) (hn : fqI M l r i 12 0 = none) : fqO M l r (12 - i) i = fqO M l r (12 - (i + 1)) (i + 1) := by
  rw [show 12 - i = (12 - (i + 1)) + 1 from by omega, fqO, hn]
theorem fqO_y {M : MSt} {l r : Int32} {i j : Nat} (h : i < 12) (hn : fqI M l r i 12 0 = some j) : fqO M l r (12 - i) i = some (i, j) := by
  rw [show 12 - i = (12 - (i + 1)) + 1 from by omega, fqO, hn]
def mcL (M : MSt) (l r : Int32) : Nat → (Bool × Int64) × Bool × Int64
  | 0 => ((false, 0), false, 0)
  | i + 1 => (bif tb l (nI i) then (true, bif (mcL M l r i).1.1 then (if wO M i ≤ (mcL M l r i).1.2 then (mcL M l r i).1.2 else wO M i) else wO M i) else (mcL M l r i).1, bif tb r (nI i) then (true, bif (mcL M l r i).2.1 then (if (mcL M l r i).2.2 ≤ wO M i then (mcL M l r i).2.2 else wO M i) else wO M i) else (mcL M l r i).2)
def mCutE (M : MSt) (s l r : Int32) : Int32 × MSt := mKH s (mFin M (mcL M l r 12).1.1 (mcL M l r 12).1.2 (mcL M l r 12).2.1 (mcL M l r 12).2.2)
def mCut (M : MSt) (s l r : Int32) : Int32 × MSt := bif isReg s then bif inL l.toInt64 0 4095 then bif inL r.toInt64 0 4095 then (match fqO M l r 12 0 with
    | some q => (-2, (M.1, M.2.1, nI q.1, nI q.2, M.2.2.2.2.1, M.2.2.2.2.2.1, M.2.2.2.2.2.2.1, M.2.2.2.2.2.2.2.1, M.2.2.2.2.2.2.2.2.1, M.2.2.2.2.2.2.2.2.2))
    | none => mCutE M s l r) else (-1, M) else (-1, M) else (-1, M)
def brM (x d : Int32) : Nat → Int32
  | 0 => 0
  | k + 1 => brM x d k ||| (bz (tb x (d - 1 - nI k)) <<< (nI k &&& 31))
def mBorn (M : MSt) (s d i : Int32) : Int32 × MSt := bif isReg s then bif inL d.toInt64 0 20 then bif inL i.toInt64 0 (Int32.toInt64 ((1 <<< (d &&& 31)) - 1)) then keep (mFd M d (brM i d d.toNatClampNeg)) s true else (-1, M) else (-1, M) else (-1, M)
def lsL (x d : Int32) : Nat → Int32
  | 0 => 0
  | i + 1 => lsL x d i + (bif tb x (nI i) then 1 + sizM (nI i + 1) d else 0)
def mLs (M : MSt) (s d : Int32) : Int32 := if d < dyM M s then lsL (sgM M s) d (min (dyM M s).toNatClampNeg (d.toNatClampNeg + 1)) else lsL (sgM M s) d (min (dyM M s).toNatClampNeg (d.toNatClampNeg + 1)) + sizM (dyM M s + 1) d
def mBet (M : MSt) (s t d : Int32) : Int32 := bif isReg s then bif isReg t then bif inL d.toInt64 0 20 then (if wO M s.toNatClampNeg < wO M t.toNatClampNeg then mLs M t d - mLs M s d - bz (decide (dyM M s ≤ d)) else -2) else -1 else -1 else -1
def wnM (M : MSt) (x : Int32) : Nat → Int32 × Int32 × Int64
  | 0 => (0, 0, 0)
  | i + 1 => bif tb x (nI i) then ((wnM M x i).1 + Int32.ofInt 1, (wnM M x i).2.1 + M.1 i, (wnM M x i).2.2 + wO M i) else wnM M x i
def mWins (M : MSt) (x w : Int32) : Int32 := bif inL x.toInt64 0 4095 then bif inL w.toInt64 0 1 then (if 4 < (wnM M x 12).1 then -2 else if (wnM M x 12).2.1 ≤ 14 then (if w = 0 then (if (wnM M x 12).2.2 ≤ 0 then 0 else 1) else (if 0 ≤ (wnM M x 12).2.2 then 0 else 1)) else -2) else -1 else -1
theorem mcL_s {M : MSt} {l r : Int32} {i : Nat} {a b : Bool} {x y : Int64} (h : mcL M l r i = ((a, x), b, y)) : mcL M l r (i + 1) = (bif tb l (nI i) then (true, bif a then (if wO M i ≤ x then x else wO M i) else wO M i) else (a, x), bif tb r (nI i) then (true, bif b then (if y ≤ wO M i then y else wO M i) else wO M i) else (b, y)) := by
  rw [mcL, h]
set_option maxHeartbeats 600000 in
set_option maxRecDepth 100000 in
theorem kX2_side (K : KT) (bd : Nat → Nat) (M : MSt) (X : va_W) (s : Int32) (t : Int32) (d : Int32) (hd : HD M) : ∀ lau : Launch, Con lau yX2_side cX2_side 5 (some .int) 2 45 K (mW K bd M X) (fun _ : Unit => mW K bd ((mSide M s t d).2) X) [.ref (bd 0), .int s, .int t, .int d] (some (.int ((mSide M s t d).1))) := by
  refine conI (by decide) (Nat.le_of_ble_eq_true rfl) (fun E C hR => ?_)
  show G E K 0 0 (mW K bd M X) [(0, .ref (bd 0)), (1, .int s), (2, .int t), (3, .int d)] 0 []
  refine g_iload_n (i := 1) C dX2_side_0 rfl rfl ?_
  refine g_callS (av := [.int s]) C dX2_side_1 ln_X2_52 mf_X2_isRegister (kX2_isRegister K (mW K bd M X) s) rfl rfl (Nat.le_of_ble_eq_true rfl) ⟨Nat.le_of_ble_eq_true rfl, Nat.le_of_ble_eq_true rfl⟩ ⟨Nat.zero_le _, Nat.zero_le _⟩ (fun _ => ?_)
  refine g_bz_eq (tgt := 24) C dX2_side_4 (by decide) (fun c4_1 => ?_) (fun c4_1 => ?_)
  · skip
    refine g_iconst (v := (-1)) C dX2_side_24 (by decide) ?_
    exact hR _ _ _ _ () dX2_side_25 (by rw [mSide, c4_1, cond_false] <;> rfl) (by show _ = mW K bd (mSide M s t d).2 X; rw [mSide, c4_1, cond_false] <;> rfl)
  · skip
    refine g_iload_n (i := 2) C dX2_side_7 rfl rfl ?_
    refine g_callS (av := [.int t]) C dX2_side_8 ln_X2_52 mf_X2_isRegister (kX2_isRegister K (mW K bd M X) t) rfl rfl (Nat.le_of_ble_eq_true rfl) ⟨Nat.le_of_ble_eq_true rfl, Nat.le_of_ble_eq_true rfl⟩ ⟨Nat.zero_le _, Nat.zero_le _⟩ (fun _ => ?_)
    refine g_bz_eq (tgt := 24) C dX2_side_11 (by decide) (fun c11_2 => ?_) (fun c11_2 => ?_)
    · skip
      refine g_iconst (v := (-1)) C dX2_side_24 (by decide) ?_
      exact hR _ _ _ _ () dX2_side_25 (by rw [mSide, c4_1, cond_true, c11_2, cond_false] <;> rfl) (by show _ = mW K bd (mSide M s t d).2 X; rw [mSide, c4_1, cond_true, c11_2, cond_false] <;> rfl)
    · skip
      refine g_iload_n (i := 3) C dX2_side_14 rfl rfl ?_
      refine g_i2l (v := Int32.toInt64 d) C dX2_side_15 rfl ?_
      refine g_lconst (v := 0) C dX2_side_16 (by decide) ?_
      refine g_lconst (v := 1) C dX2_side_17 (by decide) ?_
      refine g_callS (av := [.long (Int32.toInt64 d), .long 0, .long 1]) C dX2_side_18 ln_X2_32 mf_X2_in (kX2_in K (mW K bd M X) (Int32.toInt64 d) 0 1) rfl rfl (Nat.le_of_ble_eq_true rfl) ⟨Nat.le_of_ble_eq_true rfl, Nat.le_of_ble_eq_true rfl⟩ ⟨Nat.zero_le _, Nat.zero_le _⟩ (fun _ => ?_)
      refine g_bz_ne (tgt := 26) C dX2_side_21 (by decide) (fun c21_3 => ?_) (fun c21_3 => ?_)
      · skip
        refine g_aload_n (i := 0) C dX2_side_26 rfl rfl ?_
        refine g_get C dX2_side_27 fl_X2_7 0 rfl rfl ?_
        refine g_iload_n (i := 2) C dX2_side_30 rfl rfl ?_
        refine g_iald C dX2_side_31 1 rfl (isReg_in c11_2) ?_
        refine g_iconst (v := 1) C dX2_side_32 (by decide) ?_
        refine g_isub C dX2_side_33 ?_
        refine g_istore (lv2 := [(0, .ref (bd 0)), (1, .int s), (2, .int t), (3, .int d), (4, .int ((M.1 t.toNatClampNeg) - 1))]) C dX2_side_34 (by decide) rfl ?_
        obtain ⟨k, hk, ek⟩ := HD.r hd c11_2
        have lo : ∀ (fuel : Nat) (j : Nat) (v : Int32), j ≤ k → j < fuel → v = nI j - 1 → sdM (sgM M t) d j = sdM (sgM M t) d k → G E K 0 0 (mW K bd M X) [(0, .ref (bd 0)), (1, .int s), (2, .int t), (3, .int d), (4, .int v)] 36 [] := by
          intro fuel
          induction fuel with
          | zero =>
            intro j v hlo0 hlo1 hlo2 hlo3
            omega
          | succ fuel ihlo =>
            intro j v hlo0 hlo1 hlo2 hlo3
            refine g_iload C dX2_side_36 rfl ?_
            refine g_if_lt (tgt := 64) C dX2_side_38 (by decide) (fun c38_4 => ?_) (fun c38_4 => ?_)
            · skip
              have ej : j = 0 := decn (by rw [← hlo2]; exact c38_4) (by omega)
              refine g_iload C dX2_side_64 rfl ?_
              refine g_if_ge (tgt := 72) C dX2_side_66 (by decide) (fun c66_5 => absurd c66_5 (Int32.not_le.mpr c38_4)) (fun c66_5 => ?_)
              refine g_bipush (v := (-2)) C dX2_side_69 (by decide) ?_
              exact hR _ _ _ _ () dX2_side_71 (by subst ej; rw [mSide, c4_1, cond_true, c11_2, cond_true, c21_3, cond_true, ek, nI_clamp (by omega), ← hlo3] <;> rfl) (by show _ = mW K bd (mSide M s t d).2 X; subst ej; rw [mSide, c4_1, cond_true, c11_2, cond_true, c21_3, cond_true, ek, nI_clamp (by omega), ← hlo3] <;> rfl)
            · skip
              obtain ⟨j2, rfl⟩ := dec0 (j := j) (by rw [← hlo2]; exact c38_4)
              rw [nI_pred] at hlo2
              subst hlo2
              refine g_aload_n (i := 0) C dX2_side_41 rfl rfl ?_
              refine g_get C dX2_side_42 fl_X2_13 0 rfl rfl ?_
              refine g_iload_n (i := 2) C dX2_side_45 rfl rfl ?_
              refine g_iald C dX2_side_46 2 rfl (isReg_in c11_2) ?_
              refine g_iload C dX2_side_47 rfl ?_
              refine g_ishr C dX2_side_49 ?_
              refine g_iconst (v := 1) C dX2_side_50 (by decide) ?_
              refine g_iand C dX2_side_51 ?_
              refine g_eqi (sbz (M.2.1 t.toNatClampNeg) (nI j2)) ?_
              refine g_iconst (v := 1) C dX2_side_52 (by decide) ?_
              refine g_iload_n (i := 3) C dX2_side_53 rfl rfl ?_
              refine g_isub C dX2_side_54 ?_
              refine g_icmp_eq (tgt := 64) C dX2_side_55 (by decide) (fun c55_6 => ?_) (fun c55_6 => ?_)
              · skip
                refine g_iload C dX2_side_64 rfl ?_
                refine g_if_ge (tgt := 72) C dX2_side_66 (by decide) (fun c66_7 => ?_) (fun c66_7 => absurd (Int32.not_lt.mp c38_4) c66_7)
                refine g_aload_n (i := 0) C dX2_side_72 rfl rfl ?_
                refine g_aload_n (i := 0) C dX2_side_73 rfl rfl ?_
                refine g_get C dX2_side_74 fl_X2_13 0 rfl rfl ?_
                refine g_iload_n (i := 2) C dX2_side_77 rfl rfl ?_
                refine g_iald C dX2_side_78 2 rfl (isReg_in c11_2) ?_
                refine g_iconst (v := 1) C dX2_side_79 (by decide) ?_
                refine g_iload C dX2_side_80 rfl ?_
                refine g_ishl C dX2_side_82 ?_
                refine g_iconst (v := 1) C dX2_side_83 (by decide) ?_
                refine g_isub C dX2_side_84 ?_
                refine g_iand C dX2_side_85 ?_
                refine g_put (Wd2 := mW K bd (M.1, M.2.1, M.2.2.1, M.2.2.2.1, M.2.2.2.2.1, M.2.2.2.2.2.1, M.2.2.2.2.2.2.1, (M.2.1 t.toNatClampNeg) &&& ((1 <<< ((nI j2) &&& 31)) - 1), M.2.2.2.2.2.2.2.2.1, M.2.2.2.2.2.2.2.2.2) X) C dX2_side_86 fp_X2_47 0 rfl rfl rfl (Nat.le_of_ble_eq_true rfl) rfl ?_
                refine g_aload_n (i := 0) C dX2_side_89 rfl rfl ?_
                refine g_iload C dX2_side_90 rfl ?_
                refine g_put (Wd2 := mW K bd (M.1, M.2.1, M.2.2.1, M.2.2.2.1, M.2.2.2.2.1, M.2.2.2.2.2.1, nI j2, (M.2.1 t.toNatClampNeg) &&& ((1 <<< ((nI j2) &&& 31)) - 1), M.2.2.2.2.2.2.2.2.1, M.2.2.2.2.2.2.2.2.2) X) C dX2_side_92 fp_X2_44 0 rfl rfl rfl (Nat.le_of_ble_eq_true rfl) rfl ?_
                refine g_aload_n (i := 0) C dX2_side_95 rfl rfl ?_
                refine g_iload_n (i := 1) C dX2_side_96 rfl rfl ?_
                refine g_iconst (v := 1) C dX2_side_97 (by decide) ?_
                refine g_callV (av := [.int s, .int 1]) C dX2_side_98 ln_X2_68 mf_X2_keeps 0 rfl rfl (kX2_keeps K bd (M.1, M.2.1, M.2.2.1, M.2.2.2.1, M.2.2.2.2.1, M.2.2.2.2.2.1, nI j2, (M.2.1 t.toNatClampNeg) &&& ((1 <<< ((nI j2) &&& 31)) - 1), M.2.2.2.2.2.2.2.2.1, M.2.2.2.2.2.2.2.2.2) X s true c4_1) rfl rfl (Nat.le_of_ble_eq_true rfl) ⟨Nat.le_of_ble_eq_true rfl, Nat.le_of_ble_eq_true rfl⟩ ⟨Nat.zero_le _, Nat.zero_le _⟩ (fun _ => ?_)
                exact hR _ _ _ _ () dX2_side_101 (by rw [mSide, c4_1, cond_true, c11_2, cond_true, c21_3, cond_true, ek, nI_clamp (by omega), ← hlo3, sdM, if_pos c55_6] <;> rfl) (by show _ = mW K bd (mSide M s t d).2 X; rw [mSide, c4_1, cond_true, c11_2, cond_true, c21_3, cond_true, ek, nI_clamp (by omega), ← hlo3, sdM, if_pos c55_6] <;> rfl)
              · skip
                refine g_iinc (v := (nI j2) + Int32.ofInt (-1)) (lv2 := [(0, .ref (bd 0)), (1, .int s), (2, .int t), (3, .int d), (4, .int ((nI j2) + Int32.ofInt (-1)))]) C dX2_side_58 rfl rfl (by decide) rfl ?_
                refine g_goto (tgt := 36) C dX2_side_61 (by decide) ?_
                exact g_lvs [0, 1, 2, 3, 4] rfl (ihlo j2 _ (by omega) (by omega) (dec1 j2) (by rw [← hlo3, sdM, if_neg c55_6]))
        exact g_lvs [0, 1, 2, 3, 4] rfl (lo (k + 1) k _ (Nat.le_refl _) (by omega) (by rw [show M.1 t.toNatClampNeg = nI k from ek]) rfl)
      · skip
        refine g_iconst (v := (-1)) C dX2_side_24 (by decide) ?_
        exact hR _ _ _ _ () dX2_side_25 (by rw [mSide, c4_1, cond_true, c11_2, cond_true, c21_3, cond_false] <;> rfl) (by show _ = mW K bd (mSide M s t d).2 X; rw [mSide, c4_1, cond_true, c11_2, cond_true, c21_3, cond_false] <;> rfl)

set_option maxHeartbeats 600000 in
set_option maxRecDepth 100000 in
theorem kX2_cut (K : KT) (bd : Nat → Nat) (M : MSt) (X : va_W) (s : Int32) (l : Int32) (r : Int32) (hd : HD M) : ∀ lau : Launch, Con lau yX2_cut cX2_cut 12 (some .int) 2 56 K (mW K bd M X) (fun _ : Unit => mW K bd ((mCut M s l r).2) X) [.ref (bd 0), .int s, .int l, .int r] (some (.int ((mCut M s l r).1))) := by
  refine conI (by decide) (Nat.le_of_ble_eq_true rfl) (fun E C hR => ?_)
  show G E K 0 0 (mW K bd M X) [(0, .ref (bd 0)), (1, .int s), (2, .int l), (3, .int r)] 0 []
  refine g_iload_n (i := 1) C dX2_cut_0 rfl rfl ?_
  refine g_callS (av := [.int s]) C dX2_cut_1 ln_X2_52 mf_X2_isRegister (kX2_isRegister K (mW K bd M X) s) rfl rfl (Nat.le_of_ble_eq_true rfl) ⟨Nat.le_of_ble_eq_true rfl, Nat.le_of_ble_eq_true rfl⟩ ⟨Nat.zero_le _, Nat.zero_le _⟩ (fun _ => ?_)
  refine g_bz_eq (tgt := 31) C dX2_cut_4 (by decide) (fun c4_1 => ?_) (fun c4_1 => ?_)
  · skip
    refine g_iconst (v := (-1)) C dX2_cut_31 (by decide) ?_
    exact hR _ _ _ _ () dX2_cut_32 (by rw [mCut, c4_1, cond_false] <;> rfl) (by show _ = mW K bd (mCut M s l r).2 X; rw [mCut, c4_1, cond_false] <;> rfl)
  · skip
    refine g_iload_n (i := 2) C dX2_cut_7 rfl rfl ?_
    refine g_i2l (v := Int32.toInt64 l) C dX2_cut_8 rfl ?_
    refine g_lconst (v := 0) C dX2_cut_9 (by decide) ?_
    refine g_ldc2 (v := 4095) C dX2_cut_10 kc_X2_83 ?_
    refine g_callS (av := [.long (Int32.toInt64 l), .long 0, .long 4095]) C dX2_cut_13 ln_X2_32 mf_X2_in (kX2_in K (mW K bd M X) (Int32.toInt64 l) 0 4095) rfl rfl (Nat.le_of_ble_eq_true rfl) ⟨Nat.le_of_ble_eq_true rfl, Nat.le_of_ble_eq_true rfl⟩ ⟨Nat.zero_le _, Nat.zero_le _⟩ (fun _ => ?_)
    refine g_bz_eq (tgt := 31) C dX2_cut_16 (by decide) (fun c16_2 => ?_) (fun c16_2 => ?_)
    · skip
      refine g_iconst (v := (-1)) C dX2_cut_31 (by decide) ?_
      exact hR _ _ _ _ () dX2_cut_32 (by rw [mCut, c4_1, cond_true, c16_2, cond_false] <;> rfl) (by show _ = mW K bd (mCut M s l r).2 X; rw [mCut, c4_1, cond_true, c16_2, cond_false] <;> rfl)
    · skip
      refine g_iload_n (i := 3) C dX2_cut_19 rfl rfl ?_
      refine g_i2l (v := Int32.toInt64 r) C dX2_cut_20 rfl ?_
      refine g_lconst (v := 0) C dX2_cut_21 (by decide) ?_
      refine g_ldc2 (v := 4095) C dX2_cut_22 kc_X2_83 ?_
      refine g_callS (av := [.long (Int32.toInt64 r), .long 0, .long 4095]) C dX2_cut_25 ln_X2_32 mf_X2_in (kX2_in K (mW K bd M X) (Int32.toInt64 r) 0 4095) rfl rfl (Nat.le_of_ble_eq_true rfl) ⟨Nat.le_of_ble_eq_true rfl, Nat.le_of_ble_eq_true rfl⟩ ⟨Nat.zero_le _, Nat.zero_le _⟩ (fun _ => ?_)
      refine g_bz_ne (tgt := 33) C dX2_cut_28 (by decide) (fun c28_3 => ?_) (fun c28_3 => ?_)
      · skip
        refine g_lconst (v := 0) C dX2_cut_33 (by decide) ?_
        refine g_lstore (lv2 := [(0, .ref (bd 0)), (1, .int s), (2, .int l), (3, .int r), (4, .long 0)]) C dX2_cut_34 (by decide) rfl ?_
        refine g_lconst (v := 0) C dX2_cut_36 (by decide) ?_
        refine g_lstore (lv2 := [(0, .ref (bd 0)), (1, .int s), (2, .int l), (3, .int r), (4, .long 0), (6, .long 0)]) C dX2_cut_37 (by decide) rfl ?_
        refine g_iconst (v := 0) C dX2_cut_39 (by decide) ?_
        refine g_istore (lv2 := [(0, .ref (bd 0)), (1, .int s), (2, .int l), (3, .int r), (4, .long 0), (6, .long 0), (8, .int 0)]) C dX2_cut_40 (by decide) rfl ?_
        refine g_iconst (v := 0) C dX2_cut_42 (by decide) ?_
        refine g_istore (lv2 := [(0, .ref (bd 0)), (1, .int s), (2, .int l), (3, .int r), (4, .long 0), (6, .long 0), (8, .int 0), (9, .int 0)]) C dX2_cut_43 (by decide) rfl ?_
        refine g_iconst (v := 0) C dX2_cut_45 (by decide) ?_
        refine g_istore (lv2 := [(0, .ref (bd 0)), (1, .int s), (2, .int l), (3, .int r), (4, .long 0), (6, .long 0), (8, .int 0), (9, .int 0), (10, .int 0)]) C dX2_cut_46 (by decide) rfl ?_
        have lo : ∀ (fuel : Nat) (i : Nat), i ≤ 12 → 12 < i + fuel → fqO M l r (12 - i) i = fqO M l r 12 0 → G E K 0 0 (mW K bd M X) [(0, .ref (bd 0)), (1, .int s), (2, .int l), (3, .int r), (4, .long 0), (6, .long 0), (8, .int 0), (9, .int 0), (10, .int (nI i))] 48 [] := by
          intro fuel
          induction fuel with
          | zero =>
            intro i hlo0 hlo1 hlo2
            omega
          | succ fuel ihlo =>
            intro i hlo0 hlo1 hlo2
            refine g_iload C dX2_cut_48 rfl ?_
            refine g_bipush (v := 12) C dX2_cut_50 (by decide) ?_
            refine g_icmp_ge (tgt := 128) C dX2_cut_52 (by decide) (fun c52_4 => ?_) (fun c52_4 => ?_)
            · skip
              have ei : i = 12 := by have := nle (a := 12) c52_4 (by decide) (by omega); omega
              refine g_iconst (v := 0) C dX2_cut_128 (by decide) ?_
              refine g_istore (lv2 := [(0, .ref (bd 0)), (1, .int s), (2, .int l), (3, .int r), (4, .long 0), (6, .long 0), (8, .int 0), (9, .int 0), (10, .int 0)]) C dX2_cut_129 (by decide) rfl ?_
              have hfq : fqO M l r 12 0 = none := hlo2.symm.trans (by rw [ei]; rfl)
              clear ihlo hlo0 hlo1 hlo2 ei
              have lq : ∀ (fuel3 : Nat) (k : Nat) (a b : Bool) (x y : Int64), k ≤ 12 → 12 < k + fuel3 → mcL M l r k = ((a, x), b, y) → G E K 0 0 (mW K bd M X) [(0, .ref (bd 0)), (1, .int s), (2, .int l), (3, .int r), (4, .long x), (6, .long y), (8, .int (bz a)), (9, .int (bz b)), (10, .int (nI k))] 131 [] := by
                intro fuel3
                induction fuel3 with
                | zero =>
                  intro k a b x y hlq0 hlq1 hlq2
                  omega
                | succ fuel3 ihlq =>
                  intro k a b x y hlq0 hlq1 hlq2
                  refine g_iload C dX2_cut_131 rfl ?_
                  refine g_bipush (v := 12) C dX2_cut_133 (by decide) ?_
                  refine g_icmp_ge (tgt := 230) C dX2_cut_135 (by decide) (fun c135_5 => ?_) (fun c135_5 => ?_)
                  · skip
                    have ek : k = 12 := by have := nle (a := 12) c135_5 (by decide) (by omega); omega
                    refine g_aload_n (i := 0) C dX2_cut_230 rfl rfl ?_
                    refine g_iload_n (i := 1) C dX2_cut_231 rfl rfl ?_
                    refine g_aload_n (i := 0) C dX2_cut_232 rfl rfl ?_
                    refine g_iload C dX2_cut_233 rfl ?_
                    refine g_lload C dX2_cut_235 rfl ?_
                    refine g_iload C dX2_cut_237 rfl ?_
                    refine g_lload C dX2_cut_239 rfl ?_
                    refine g_callV (av := [.int (bz a), .long x, .int (bz b), .long y]) C dX2_cut_241 ln_X2_85 mf_X2_finds 0 rfl rfl (kX2_finds K bd M X a x b y ) rfl rfl (Nat.le_of_ble_eq_true rfl) ⟨Nat.le_of_ble_eq_true rfl, Nat.le_of_ble_eq_true rfl⟩ ⟨Nat.zero_le _, Nat.zero_le _⟩ (fun _ => ?_)
                    refine g_callV (av := [.int s, .int (bz (mFin M a x b y).1)]) C dX2_cut_244 ln_X2_68 mf_X2_keeps 0 rfl rfl (kX2_keeps K bd ((mFin M a x b y).2) X s ((mFin M a x b y).1) c4_1) rfl rfl (Nat.le_of_ble_eq_true rfl) ⟨Nat.le_of_ble_eq_true rfl, Nat.le_of_ble_eq_true rfl⟩ ⟨Nat.zero_le _, Nat.zero_le _⟩ (fun _ => ?_)
                    exact hR _ _ _ _ () dX2_cut_247 (by rw [mCut, c4_1, cond_true, c16_2, cond_true, c28_3, cond_true, hfq]; show _ = (mCutE M s l r).1; rw [mCutE, ← ek, hlq2] <;> rfl) (by show _ = mW K bd (mCut M s l r).2 X; rw [mCut, c4_1, cond_true, c16_2, cond_true, c28_3, cond_true, hfq]; show _ = mW K bd (mCutE M s l r).2 X; rw [mCutE, ← ek, hlq2] <;> rfl)
                  · skip
                    have ek : k < 12 := nlt (a := 12) c135_5 (by decide) (by omega)
                    refine g_iload_n (i := 2) C dX2_cut_138 rfl rfl ?_
                    refine g_iload C dX2_cut_139 rfl ?_
                    refine g_ishr C dX2_cut_141 ?_
                    refine g_iconst (v := 1) C dX2_cut_142 (by decide) ?_
                    refine g_iand C dX2_cut_143 ?_
                    refine g_eqi (sbz l (nI k)) ?_
                    refine g_iconst (v := 1) C dX2_cut_144 (by decide) ?_
                    refine g_bz1_ne (tgt := 181) C dX2_cut_145 (by decide) (fun c145_6 => ?_) (fun c145_6 => ?_)
                    · skip
                      refine g_iload_n (i := 3) C dX2_cut_181 rfl rfl ?_
                      refine g_iload C dX2_cut_182 rfl ?_
                      refine g_ishr C dX2_cut_184 ?_
                      refine g_iconst (v := 1) C dX2_cut_185 (by decide) ?_
                      refine g_iand C dX2_cut_186 ?_
                      refine g_eqi (sbz r (nI k)) ?_
                      refine g_iconst (v := 1) C dX2_cut_187 (by decide) ?_
                      refine g_bz1_ne (tgt := 224) C dX2_cut_188 (by decide) (fun c188_7 => ?_) (fun c188_7 => ?_)
                      · skip
                        refine g_iinc (v := nI (k + 1)) (lv2 := [(0, .ref (bd 0)), (1, .int s), (2, .int l), (3, .int r), (4, .long x), (6, .long y), (8, .int (bz a)), (9, .int (bz b)), (10, .int (nI (k + 1)))]) C dX2_cut_224 rfl (nI_inc k) (by decide) rfl ?_
                        refine g_goto (tgt := 131) C dX2_cut_227 (by decide) ?_
                        exact g_lvs [0, 1, 2, 3, 4, 5, 6, 7, 8] rfl (ihlq (k + 1) a b _ _ (by omega) (by omega) (by rw [mcL_s hlq2, c145_6, cond_false, c188_7, cond_false]))
                      · skip
                        refine g_iload C dX2_cut_191 rfl ?_
                        refine g_bz_eq (tgt := 208) C dX2_cut_193 (by decide) (fun c193_8 => ?_) (fun c193_8 => ?_)
                        · skip
                          refine g_aload_n (i := 0) C dX2_cut_208 rfl rfl ?_
                          refine g_iload C dX2_cut_209 rfl ?_
                          refine g_callV (av := [.int (nI k)]) C dX2_cut_211 ln_X2_73 mf_X2_worthOf 0 rfl rfl (kX2_worthOf K bd M X (nI k) (isReg_nI (by omega)) (hd _ (by rw [nI_clamp (by omega)]; omega))) rfl rfl (Nat.le_of_ble_eq_true rfl) ⟨Nat.le_of_ble_eq_true rfl, Nat.le_of_ble_eq_true rfl⟩ ⟨Nat.zero_le _, Nat.zero_le _⟩ (fun _ => ?_)
                          refine g_eql (congrArg (wO M) (nI_clamp (by omega))) ?_
                          refine g_goto (tgt := 219) C dX2_cut_214 (by decide) ?_
                          refine g_lstore (lv2 := [(0, .ref (bd 0)), (1, .int s), (2, .int l), (3, .int r), (4, .long x), (6, .long (wO M k)), (8, .int (bz a)), (9, .int (bz b)), (10, .int (nI k))]) C dX2_cut_219 (by decide) rfl ?_
                          refine g_iconst (v := 1) C dX2_cut_221 (by decide) ?_
                          refine g_istore (lv2 := [(0, .ref (bd 0)), (1, .int s), (2, .int l), (3, .int r), (4, .long x), (6, .long (wO M k)), (8, .int (bz a)), (9, .int 1), (10, .int (nI k))]) C dX2_cut_222 (by decide) rfl ?_
                          refine g_iinc (v := nI (k + 1)) (lv2 := [(0, .ref (bd 0)), (1, .int s), (2, .int l), (3, .int r), (4, .long x), (6, .long (wO M k)), (8, .int (bz a)), (9, .int 1), (10, .int (nI (k + 1)))]) C dX2_cut_224 rfl (nI_inc k) (by decide) rfl ?_
                          refine g_goto (tgt := 131) C dX2_cut_227 (by decide) ?_
                          exact g_lvs [0, 1, 2, 3, 4, 5, 6, 7, 8] rfl (ihlq (k + 1) a true _ _ (by omega) (by omega) (by rw [mcL_s hlq2, c145_6, cond_false, c188_7, cond_true, c193_8, cond_false]))
                        · skip
                          refine g_aload_n (i := 0) C dX2_cut_196 rfl rfl ?_
                          refine g_iload C dX2_cut_197 rfl ?_
                          refine g_callV (av := [.int (nI k)]) C dX2_cut_199 ln_X2_73 mf_X2_worthOf 0 rfl rfl (kX2_worthOf K bd M X (nI k) (isReg_nI (by omega)) (hd _ (by rw [nI_clamp (by omega)]; omega))) rfl rfl (Nat.le_of_ble_eq_true rfl) ⟨Nat.le_of_ble_eq_true rfl, Nat.le_of_ble_eq_true rfl⟩ ⟨Nat.zero_le _, Nat.zero_le _⟩ (fun _ => ?_)
                          refine g_eql (congrArg (wO M) (nI_clamp (by omega))) ?_
                          refine g_lload C dX2_cut_202 rfl ?_
                          refine g_lcmp_ge (tgt := 217) C dX2_cut_204 dX2_cut_205 (by decide) (fun c204_9 => ?_) (fun c204_9 => ?_)
                          · skip
                            refine g_lload C dX2_cut_217 rfl ?_
                            refine g_lstore (lv2 := [(0, .ref (bd 0)), (1, .int s), (2, .int l), (3, .int r), (4, .long x), (6, .long y), (8, .int (bz a)), (9, .int (bz b)), (10, .int (nI k))]) C dX2_cut_219 (by decide) rfl ?_
                            refine g_iconst (v := 1) C dX2_cut_221 (by decide) ?_
                            refine g_istore (lv2 := [(0, .ref (bd 0)), (1, .int s), (2, .int l), (3, .int r), (4, .long x), (6, .long y), (8, .int (bz a)), (9, .int 1), (10, .int (nI k))]) C dX2_cut_222 (by decide) rfl ?_
                            refine g_iinc (v := nI (k + 1)) (lv2 := [(0, .ref (bd 0)), (1, .int s), (2, .int l), (3, .int r), (4, .long x), (6, .long y), (8, .int (bz a)), (9, .int 1), (10, .int (nI (k + 1)))]) C dX2_cut_224 rfl (nI_inc k) (by decide) rfl ?_
                            refine g_goto (tgt := 131) C dX2_cut_227 (by decide) ?_
                            exact g_lvs [0, 1, 2, 3, 4, 5, 6, 7, 8] rfl (ihlq (k + 1) a true _ _ (by omega) (by omega) (by rw [mcL_s hlq2, c145_6, cond_false, c188_7, cond_true, c193_8, cond_true, if_pos c204_9]))
                          · skip
                            refine g_aload_n (i := 0) C dX2_cut_208 rfl rfl ?_
                            refine g_iload C dX2_cut_209 rfl ?_
                            refine g_callV (av := [.int (nI k)]) C dX2_cut_211 ln_X2_73 mf_X2_worthOf 0 rfl rfl (kX2_worthOf K bd M X (nI k) (isReg_nI (by omega)) (hd _ (by rw [nI_clamp (by omega)]; omega))) rfl rfl (Nat.le_of_ble_eq_true rfl) ⟨Nat.le_of_ble_eq_true rfl, Nat.le_of_ble_eq_true rfl⟩ ⟨Nat.zero_le _, Nat.zero_le _⟩ (fun _ => ?_)
                            refine g_eql (congrArg (wO M) (nI_clamp (by omega))) ?_
                            refine g_goto (tgt := 219) C dX2_cut_214 (by decide) ?_
                            refine g_lstore (lv2 := [(0, .ref (bd 0)), (1, .int s), (2, .int l), (3, .int r), (4, .long x), (6, .long (wO M k)), (8, .int (bz a)), (9, .int (bz b)), (10, .int (nI k))]) C dX2_cut_219 (by decide) rfl ?_
                            refine g_iconst (v := 1) C dX2_cut_221 (by decide) ?_
                            refine g_istore (lv2 := [(0, .ref (bd 0)), (1, .int s), (2, .int l), (3, .int r), (4, .long x), (6, .long (wO M k)), (8, .int (bz a)), (9, .int 1), (10, .int (nI k))]) C dX2_cut_222 (by decide) rfl ?_
                            refine g_iinc (v := nI (k + 1)) (lv2 := [(0, .ref (bd 0)), (1, .int s), (2, .int l), (3, .int r), (4, .long x), (6, .long (wO M k)), (8, .int (bz a)), (9, .int 1), (10, .int (nI (k + 1)))]) C dX2_cut_224 rfl (nI_inc k) (by decide) rfl ?_
                            refine g_goto (tgt := 131) C dX2_cut_227 (by decide) ?_
                            exact g_lvs [0, 1, 2, 3, 4, 5, 6, 7, 8] rfl (ihlq (k + 1) a true _ _ (by omega) (by omega) (by rw [mcL_s hlq2, c145_6, cond_false, c188_7, cond_true, c193_8, cond_true, if_neg c204_9]))
                    · skip
                      refine g_iload C dX2_cut_148 rfl ?_
                      refine g_bz_eq (tgt := 165) C dX2_cut_150 (by decide) (fun c150_10 => ?_) (fun c150_10 => ?_)
                      · skip
                        refine g_aload_n (i := 0) C dX2_cut_165 rfl rfl ?_
                        refine g_iload C dX2_cut_166 rfl ?_
                        refine g_callV (av := [.int (nI k)]) C dX2_cut_168 ln_X2_73 mf_X2_worthOf 0 rfl rfl (kX2_worthOf K bd M X (nI k) (isReg_nI (by omega)) (hd _ (by rw [nI_clamp (by omega)]; omega))) rfl rfl (Nat.le_of_ble_eq_true rfl) ⟨Nat.le_of_ble_eq_true rfl, Nat.le_of_ble_eq_true rfl⟩ ⟨Nat.zero_le _, Nat.zero_le _⟩ (fun _ => ?_)
                        refine g_eql (congrArg (wO M) (nI_clamp (by omega))) ?_
                        refine g_goto (tgt := 176) C dX2_cut_171 (by decide) ?_
                        refine g_lstore (lv2 := [(0, .ref (bd 0)), (1, .int s), (2, .int l), (3, .int r), (4, .long (wO M k)), (6, .long y), (8, .int (bz a)), (9, .int (bz b)), (10, .int (nI k))]) C dX2_cut_176 (by decide) rfl ?_
                        refine g_iconst (v := 1) C dX2_cut_178 (by decide) ?_
                        refine g_istore (lv2 := [(0, .ref (bd 0)), (1, .int s), (2, .int l), (3, .int r), (4, .long (wO M k)), (6, .long y), (8, .int 1), (9, .int (bz b)), (10, .int (nI k))]) C dX2_cut_179 (by decide) rfl ?_
                        refine g_iload_n (i := 3) C dX2_cut_181 rfl rfl ?_
                        refine g_iload C dX2_cut_182 rfl ?_
                        refine g_ishr C dX2_cut_184 ?_
                        refine g_iconst (v := 1) C dX2_cut_185 (by decide) ?_
                        refine g_iand C dX2_cut_186 ?_
                        refine g_eqi (sbz r (nI k)) ?_
                        refine g_iconst (v := 1) C dX2_cut_187 (by decide) ?_
                        refine g_bz1_ne (tgt := 224) C dX2_cut_188 (by decide) (fun c188_11 => ?_) (fun c188_11 => ?_)
                        · skip
                          refine g_iinc (v := nI (k + 1)) (lv2 := [(0, .ref (bd 0)), (1, .int s), (2, .int l), (3, .int r), (4, .long (wO M k)), (6, .long y), (8, .int 1), (9, .int (bz b)), (10, .int (nI (k + 1)))]) C dX2_cut_224 rfl (nI_inc k) (by decide) rfl ?_
                          refine g_goto (tgt := 131) C dX2_cut_227 (by decide) ?_
                          exact g_lvs [0, 1, 2, 3, 4, 5, 6, 7, 8] rfl (ihlq (k + 1) true b _ _ (by omega) (by omega) (by rw [mcL_s hlq2, c145_6, cond_true, c150_10, cond_false, c188_11, cond_false]))
                        · skip
                          refine g_iload C dX2_cut_191 rfl ?_
                          refine g_bz_eq (tgt := 208) C dX2_cut_193 (by decide) (fun c193_12 => ?_) (fun c193_12 => ?_)
                          · skip
                            refine g_aload_n (i := 0) C dX2_cut_208 rfl rfl ?_
                            refine g_iload C dX2_cut_209 rfl ?_
                            refine g_callV (av := [.int (nI k)]) C dX2_cut_211 ln_X2_73 mf_X2_worthOf 0 rfl rfl (kX2_worthOf K bd M X (nI k) (isReg_nI (by omega)) (hd _ (by rw [nI_clamp (by omega)]; omega))) rfl rfl (Nat.le_of_ble_eq_true rfl) ⟨Nat.le_of_ble_eq_true rfl, Nat.le_of_ble_eq_true rfl⟩ ⟨Nat.zero_le _, Nat.zero_le _⟩ (fun _ => ?_)
                            refine g_eql (congrArg (wO M) (nI_clamp (by omega))) ?_
                            refine g_goto (tgt := 219) C dX2_cut_214 (by decide) ?_
                            refine g_lstore (lv2 := [(0, .ref (bd 0)), (1, .int s), (2, .int l), (3, .int r), (4, .long (wO M k)), (6, .long (wO M k)), (8, .int 1), (9, .int (bz b)), (10, .int (nI k))]) C dX2_cut_219 (by decide) rfl ?_
                            refine g_iconst (v := 1) C dX2_cut_221 (by decide) ?_
                            refine g_istore (lv2 := [(0, .ref (bd 0)), (1, .int s), (2, .int l), (3, .int r), (4, .long (wO M k)), (6, .long (wO M k)), (8, .int 1), (9, .int 1), (10, .int (nI k))]) C dX2_cut_222 (by decide) rfl ?_
                            refine g_iinc (v := nI (k + 1)) (lv2 := [(0, .ref (bd 0)), (1, .int s), (2, .int l), (3, .int r), (4, .long (wO M k)), (6, .long (wO M k)), (8, .int 1), (9, .int 1), (10, .int (nI (k + 1)))]) C dX2_cut_224 rfl (nI_inc k) (by decide) rfl ?_
                            refine g_goto (tgt := 131) C dX2_cut_227 (by decide) ?_
                            exact g_lvs [0, 1, 2, 3, 4, 5, 6, 7, 8] rfl (ihlq (k + 1) true true _ _ (by omega) (by omega) (by rw [mcL_s hlq2, c145_6, cond_true, c150_10, cond_false, c188_11, cond_true, c193_12, cond_false]))
                          · skip
                            refine g_aload_n (i := 0) C dX2_cut_196 rfl rfl ?_
                            refine g_iload C dX2_cut_197 rfl ?_
                            refine g_callV (av := [.int (nI k)]) C dX2_cut_199 ln_X2_73 mf_X2_worthOf 0 rfl rfl (kX2_worthOf K bd M X (nI k) (isReg_nI (by omega)) (hd _ (by rw [nI_clamp (by omega)]; omega))) rfl rfl (Nat.le_of_ble_eq_true rfl) ⟨Nat.le_of_ble_eq_true rfl, Nat.le_of_ble_eq_true rfl⟩ ⟨Nat.zero_le _, Nat.zero_le _⟩ (fun _ => ?_)
                            refine g_eql (congrArg (wO M) (nI_clamp (by omega))) ?_
                            refine g_lload C dX2_cut_202 rfl ?_
                            refine g_lcmp_ge (tgt := 217) C dX2_cut_204 dX2_cut_205 (by decide) (fun c204_13 => ?_) (fun c204_13 => ?_)
                            · skip
                              refine g_lload C dX2_cut_217 rfl ?_
                              refine g_lstore (lv2 := [(0, .ref (bd 0)), (1, .int s), (2, .int l), (3, .int r), (4, .long (wO M k)), (6, .long y), (8, .int 1), (9, .int (bz b)), (10, .int (nI k))]) C dX2_cut_219 (by decide) rfl ?_
                              refine g_iconst (v := 1) C dX2_cut_221 (by decide) ?_
                              refine g_istore (lv2 := [(0, .ref (bd 0)), (1, .int s), (2, .int l), (3, .int r), (4, .long (wO M k)), (6, .long y), (8, .int 1), (9, .int 1), (10, .int (nI k))]) C dX2_cut_222 (by decide) rfl ?_
                              refine g_iinc (v := nI (k + 1)) (lv2 := [(0, .ref (bd 0)), (1, .int s), (2, .int l), (3, .int r), (4, .long (wO M k)), (6, .long y), (8, .int 1), (9, .int 1), (10, .int (nI (k + 1)))]) C dX2_cut_224 rfl (nI_inc k) (by decide) rfl ?_
                              refine g_goto (tgt := 131) C dX2_cut_227 (by decide) ?_
                              exact g_lvs [0, 1, 2, 3, 4, 5, 6, 7, 8] rfl (ihlq (k + 1) true true _ _ (by omega) (by omega) (by rw [mcL_s hlq2, c145_6, cond_true, c150_10, cond_false, c188_11, cond_true, c193_12, cond_true, if_pos c204_13]))
                            · skip
                              refine g_aload_n (i := 0) C dX2_cut_208 rfl rfl ?_
                              refine g_iload C dX2_cut_209 rfl ?_
                              refine g_callV (av := [.int (nI k)]) C dX2_cut_211 ln_X2_73 mf_X2_worthOf 0 rfl rfl (kX2_worthOf K bd M X (nI k) (isReg_nI (by omega)) (hd _ (by rw [nI_clamp (by omega)]; omega))) rfl rfl (Nat.le_of_ble_eq_true rfl) ⟨Nat.le_of_ble_eq_true rfl, Nat.le_of_ble_eq_true rfl⟩ ⟨Nat.zero_le _, Nat.zero_le _⟩ (fun _ => ?_)
                              refine g_eql (congrArg (wO M) (nI_clamp (by omega))) ?_
                              refine g_goto (tgt := 219) C dX2_cut_214 (by decide) ?_
                              refine g_lstore (lv2 := [(0, .ref (bd 0)), (1, .int s), (2, .int l), (3, .int r), (4, .long (wO M k)), (6, .long (wO M k)), (8, .int 1), (9, .int (bz b)), (10, .int (nI k))]) C dX2_cut_219 (by decide) rfl ?_
                              refine g_iconst (v := 1) C dX2_cut_221 (by decide) ?_
                              refine g_istore (lv2 := [(0, .ref (bd 0)), (1, .int s), (2, .int l), (3, .int r), (4, .long (wO M k)), (6, .long (wO M k)), (8, .int 1), (9, .int 1), (10, .int (nI k))]) C dX2_cut_222 (by decide) rfl ?_
                              refine g_iinc (v := nI (k + 1)) (lv2 := [(0, .ref (bd 0)), (1, .int s), (2, .int l), (3, .int r), (4, .long (wO M k)), (6, .long (wO M k)), (8, .int 1), (9, .int 1), (10, .int (nI (k + 1)))]) C dX2_cut_224 rfl (nI_inc k) (by decide) rfl ?_
                              refine g_goto (tgt := 131) C dX2_cut_227 (by decide) ?_
                              exact g_lvs [0, 1, 2, 3, 4, 5, 6, 7, 8] rfl (ihlq (k + 1) true true _ _ (by omega) (by omega) (by rw [mcL_s hlq2, c145_6, cond_true, c150_10, cond_false, c188_11, cond_true, c193_12, cond_true, if_neg c204_13]))
                      · skip
                        refine g_aload_n (i := 0) C dX2_cut_153 rfl rfl ?_
                        refine g_iload C dX2_cut_154 rfl ?_
                        refine g_callV (av := [.int (nI k)]) C dX2_cut_156 ln_X2_73 mf_X2_worthOf 0 rfl rfl (kX2_worthOf K bd M X (nI k) (isReg_nI (by omega)) (hd _ (by rw [nI_clamp (by omega)]; omega))) rfl rfl (Nat.le_of_ble_eq_true rfl) ⟨Nat.le_of_ble_eq_true rfl, Nat.le_of_ble_eq_true rfl⟩ ⟨Nat.zero_le _, Nat.zero_le _⟩ (fun _ => ?_)
                        refine g_eql (congrArg (wO M) (nI_clamp (by omega))) ?_
                        refine g_lload C dX2_cut_159 rfl ?_
                        refine g_lcmp_le (tgt := 174) C dX2_cut_161 dX2_cut_162 (by decide) (fun c161_14 => ?_) (fun c161_14 => ?_)
                        · skip
                          refine g_lload C dX2_cut_174 rfl ?_
                          refine g_lstore (lv2 := [(0, .ref (bd 0)), (1, .int s), (2, .int l), (3, .int r), (4, .long x), (6, .long y), (8, .int (bz a)), (9, .int (bz b)), (10, .int (nI k))]) C dX2_cut_176 (by decide) rfl ?_
                          refine g_iconst (v := 1) C dX2_cut_178 (by decide) ?_
                          refine g_istore (lv2 := [(0, .ref (bd 0)), (1, .int s), (2, .int l), (3, .int r), (4, .long x), (6, .long y), (8, .int 1), (9, .int (bz b)), (10, .int (nI k))]) C dX2_cut_179 (by decide) rfl ?_
                          refine g_iload_n (i := 3) C dX2_cut_181 rfl rfl ?_
                          refine g_iload C dX2_cut_182 rfl ?_
                          refine g_ishr C dX2_cut_184 ?_
                          refine g_iconst (v := 1) C dX2_cut_185 (by decide) ?_
                          refine g_iand C dX2_cut_186 ?_
                          refine g_eqi (sbz r (nI k)) ?_
                          refine g_iconst (v := 1) C dX2_cut_187 (by decide) ?_
                          refine g_bz1_ne (tgt := 224) C dX2_cut_188 (by decide) (fun c188_15 => ?_) (fun c188_15 => ?_)
                          · skip
                            refine g_iinc (v := nI (k + 1)) (lv2 := [(0, .ref (bd 0)), (1, .int s), (2, .int l), (3, .int r), (4, .long x), (6, .long y), (8, .int 1), (9, .int (bz b)), (10, .int (nI (k + 1)))]) C dX2_cut_224 rfl (nI_inc k) (by decide) rfl ?_
                            refine g_goto (tgt := 131) C dX2_cut_227 (by decide) ?_
                            exact g_lvs [0, 1, 2, 3, 4, 5, 6, 7, 8] rfl (ihlq (k + 1) true b _ _ (by omega) (by omega) (by rw [mcL_s hlq2, c145_6, cond_true, c150_10, cond_true, if_pos c161_14, c188_15, cond_false]))
                          · skip
                            refine g_iload C dX2_cut_191 rfl ?_
                            refine g_bz_eq (tgt := 208) C dX2_cut_193 (by decide) (fun c193_16 => ?_) (fun c193_16 => ?_)
                            · skip
                              refine g_aload_n (i := 0) C dX2_cut_208 rfl rfl ?_
                              refine g_iload C dX2_cut_209 rfl ?_
                              refine g_callV (av := [.int (nI k)]) C dX2_cut_211 ln_X2_73 mf_X2_worthOf 0 rfl rfl (kX2_worthOf K bd M X (nI k) (isReg_nI (by omega)) (hd _ (by rw [nI_clamp (by omega)]; omega))) rfl rfl (Nat.le_of_ble_eq_true rfl) ⟨Nat.le_of_ble_eq_true rfl, Nat.le_of_ble_eq_true rfl⟩ ⟨Nat.zero_le _, Nat.zero_le _⟩ (fun _ => ?_)
                              refine g_eql (congrArg (wO M) (nI_clamp (by omega))) ?_
                              refine g_goto (tgt := 219) C dX2_cut_214 (by decide) ?_
                              refine g_lstore (lv2 := [(0, .ref (bd 0)), (1, .int s), (2, .int l), (3, .int r), (4, .long x), (6, .long (wO M k)), (8, .int 1), (9, .int (bz b)), (10, .int (nI k))]) C dX2_cut_219 (by decide) rfl ?_
                              refine g_iconst (v := 1) C dX2_cut_221 (by decide) ?_
                              refine g_istore (lv2 := [(0, .ref (bd 0)), (1, .int s), (2, .int l), (3, .int r), (4, .long x), (6, .long (wO M k)), (8, .int 1), (9, .int 1), (10, .int (nI k))]) C dX2_cut_222 (by decide) rfl ?_
                              refine g_iinc (v := nI (k + 1)) (lv2 := [(0, .ref (bd 0)), (1, .int s), (2, .int l), (3, .int r), (4, .long x), (6, .long (wO M k)), (8, .int 1), (9, .int 1), (10, .int (nI (k + 1)))]) C dX2_cut_224 rfl (nI_inc k) (by decide) rfl ?_
                              refine g_goto (tgt := 131) C dX2_cut_227 (by decide) ?_
                              exact g_lvs [0, 1, 2, 3, 4, 5, 6, 7, 8] rfl (ihlq (k + 1) true true _ _ (by omega) (by omega) (by rw [mcL_s hlq2, c145_6, cond_true, c150_10, cond_true, if_pos c161_14, c188_15, cond_true, c193_16, cond_false]))
                            · skip
                              refine g_aload_n (i := 0) C dX2_cut_196 rfl rfl ?_
                              refine g_iload C dX2_cut_197 rfl ?_
                              refine g_callV (av := [.int (nI k)]) C dX2_cut_199 ln_X2_73 mf_X2_worthOf 0 rfl rfl (kX2_worthOf K bd M X (nI k) (isReg_nI (by omega)) (hd _ (by rw [nI_clamp (by omega)]; omega))) rfl rfl (Nat.le_of_ble_eq_true rfl) ⟨Nat.le_of_ble_eq_true rfl, Nat.le_of_ble_eq_true rfl⟩ ⟨Nat.zero_le _, Nat.zero_le _⟩ (fun _ => ?_)
                              refine g_eql (congrArg (wO M) (nI_clamp (by omega))) ?_
                              refine g_lload C dX2_cut_202 rfl ?_
                              refine g_lcmp_ge (tgt := 217) C dX2_cut_204 dX2_cut_205 (by decide) (fun c204_17 => ?_) (fun c204_17 => ?_)
                              · skip
                                refine g_lload C dX2_cut_217 rfl ?_
                                refine g_lstore (lv2 := [(0, .ref (bd 0)), (1, .int s), (2, .int l), (3, .int r), (4, .long x), (6, .long y), (8, .int 1), (9, .int (bz b)), (10, .int (nI k))]) C dX2_cut_219 (by decide) rfl ?_
                                refine g_iconst (v := 1) C dX2_cut_221 (by decide) ?_
                                refine g_istore (lv2 := [(0, .ref (bd 0)), (1, .int s), (2, .int l), (3, .int r), (4, .long x), (6, .long y), (8, .int 1), (9, .int 1), (10, .int (nI k))]) C dX2_cut_222 (by decide) rfl ?_
                                refine g_iinc (v := nI (k + 1)) (lv2 := [(0, .ref (bd 0)), (1, .int s), (2, .int l), (3, .int r), (4, .long x), (6, .long y), (8, .int 1), (9, .int 1), (10, .int (nI (k + 1)))]) C dX2_cut_224 rfl (nI_inc k) (by decide) rfl ?_
                                refine g_goto (tgt := 131) C dX2_cut_227 (by decide) ?_
                                exact g_lvs [0, 1, 2, 3, 4, 5, 6, 7, 8] rfl (ihlq (k + 1) true true _ _ (by omega) (by omega) (by rw [mcL_s hlq2, c145_6, cond_true, c150_10, cond_true, if_pos c161_14, c188_15, cond_true, c193_16, cond_true, if_pos c204_17]))
                              · skip
                                refine g_aload_n (i := 0) C dX2_cut_208 rfl rfl ?_
                                refine g_iload C dX2_cut_209 rfl ?_
                                refine g_callV (av := [.int (nI k)]) C dX2_cut_211 ln_X2_73 mf_X2_worthOf 0 rfl rfl (kX2_worthOf K bd M X (nI k) (isReg_nI (by omega)) (hd _ (by rw [nI_clamp (by omega)]; omega))) rfl rfl (Nat.le_of_ble_eq_true rfl) ⟨Nat.le_of_ble_eq_true rfl, Nat.le_of_ble_eq_true rfl⟩ ⟨Nat.zero_le _, Nat.zero_le _⟩ (fun _ => ?_)
                                refine g_eql (congrArg (wO M) (nI_clamp (by omega))) ?_
                                refine g_goto (tgt := 219) C dX2_cut_214 (by decide) ?_
                                refine g_lstore (lv2 := [(0, .ref (bd 0)), (1, .int s), (2, .int l), (3, .int r), (4, .long x), (6, .long (wO M k)), (8, .int 1), (9, .int (bz b)), (10, .int (nI k))]) C dX2_cut_219 (by decide) rfl ?_
                                refine g_iconst (v := 1) C dX2_cut_221 (by decide) ?_
                                refine g_istore (lv2 := [(0, .ref (bd 0)), (1, .int s), (2, .int l), (3, .int r), (4, .long x), (6, .long (wO M k)), (8, .int 1), (9, .int 1), (10, .int (nI k))]) C dX2_cut_222 (by decide) rfl ?_
                                refine g_iinc (v := nI (k + 1)) (lv2 := [(0, .ref (bd 0)), (1, .int s), (2, .int l), (3, .int r), (4, .long x), (6, .long (wO M k)), (8, .int 1), (9, .int 1), (10, .int (nI (k + 1)))]) C dX2_cut_224 rfl (nI_inc k) (by decide) rfl ?_
                                refine g_goto (tgt := 131) C dX2_cut_227 (by decide) ?_
                                exact g_lvs [0, 1, 2, 3, 4, 5, 6, 7, 8] rfl (ihlq (k + 1) true true _ _ (by omega) (by omega) (by rw [mcL_s hlq2, c145_6, cond_true, c150_10, cond_true, if_pos c161_14, c188_15, cond_true, c193_16, cond_true, if_neg c204_17]))
                        · skip
                          refine g_aload_n (i := 0) C dX2_cut_165 rfl rfl ?_
                          refine g_iload C dX2_cut_166 rfl ?_
                          refine g_callV (av := [.int (nI k)]) C dX2_cut_168 ln_X2_73 mf_X2_worthOf 0 rfl rfl (kX2_worthOf K bd M X (nI k) (isReg_nI (by omega)) (hd _ (by rw [nI_clamp (by omega)]; omega))) rfl rfl (Nat.le_of_ble_eq_true rfl) ⟨Nat.le_of_ble_eq_true rfl, Nat.le_of_ble_eq_true rfl⟩ ⟨Nat.zero_le _, Nat.zero_le _⟩ (fun _ => ?_)
                          refine g_eql (congrArg (wO M) (nI_clamp (by omega))) ?_
                          refine g_goto (tgt := 176) C dX2_cut_171 (by decide) ?_
                          refine g_lstore (lv2 := [(0, .ref (bd 0)), (1, .int s), (2, .int l), (3, .int r), (4, .long (wO M k)), (6, .long y), (8, .int (bz a)), (9, .int (bz b)), (10, .int (nI k))]) C dX2_cut_176 (by decide) rfl ?_
                          refine g_iconst (v := 1) C dX2_cut_178 (by decide) ?_
                          refine g_istore (lv2 := [(0, .ref (bd 0)), (1, .int s), (2, .int l), (3, .int r), (4, .long (wO M k)), (6, .long y), (8, .int 1), (9, .int (bz b)), (10, .int (nI k))]) C dX2_cut_179 (by decide) rfl ?_
                          refine g_iload_n (i := 3) C dX2_cut_181 rfl rfl ?_
                          refine g_iload C dX2_cut_182 rfl ?_
                          refine g_ishr C dX2_cut_184 ?_
                          refine g_iconst (v := 1) C dX2_cut_185 (by decide) ?_
                          refine g_iand C dX2_cut_186 ?_
                          refine g_eqi (sbz r (nI k)) ?_
                          refine g_iconst (v := 1) C dX2_cut_187 (by decide) ?_
                          refine g_bz1_ne (tgt := 224) C dX2_cut_188 (by decide) (fun c188_18 => ?_) (fun c188_18 => ?_)
                          · skip
                            refine g_iinc (v := nI (k + 1)) (lv2 := [(0, .ref (bd 0)), (1, .int s), (2, .int l), (3, .int r), (4, .long (wO M k)), (6, .long y), (8, .int 1), (9, .int (bz b)), (10, .int (nI (k + 1)))]) C dX2_cut_224 rfl (nI_inc k) (by decide) rfl ?_
                            refine g_goto (tgt := 131) C dX2_cut_227 (by decide) ?_
                            exact g_lvs [0, 1, 2, 3, 4, 5, 6, 7, 8] rfl (ihlq (k + 1) true b _ _ (by omega) (by omega) (by rw [mcL_s hlq2, c145_6, cond_true, c150_10, cond_true, if_neg c161_14, c188_18, cond_false]))
                          · skip
                            refine g_iload C dX2_cut_191 rfl ?_
                            refine g_bz_eq (tgt := 208) C dX2_cut_193 (by decide) (fun c193_19 => ?_) (fun c193_19 => ?_)
                            · skip
                              refine g_aload_n (i := 0) C dX2_cut_208 rfl rfl ?_
                              refine g_iload C dX2_cut_209 rfl ?_
                              refine g_callV (av := [.int (nI k)]) C dX2_cut_211 ln_X2_73 mf_X2_worthOf 0 rfl rfl (kX2_worthOf K bd M X (nI k) (isReg_nI (by omega)) (hd _ (by rw [nI_clamp (by omega)]; omega))) rfl rfl (Nat.le_of_ble_eq_true rfl) ⟨Nat.le_of_ble_eq_true rfl, Nat.le_of_ble_eq_true rfl⟩ ⟨Nat.zero_le _, Nat.zero_le _⟩ (fun _ => ?_)
                              refine g_eql (congrArg (wO M) (nI_clamp (by omega))) ?_
                              refine g_goto (tgt := 219) C dX2_cut_214 (by decide) ?_
                              refine g_lstore (lv2 := [(0, .ref (bd 0)), (1, .int s), (2, .int l), (3, .int r), (4, .long (wO M k)), (6, .long (wO M k)), (8, .int 1), (9, .int (bz b)), (10, .int (nI k))]) C dX2_cut_219 (by decide) rfl ?_
                              refine g_iconst (v := 1) C dX2_cut_221 (by decide) ?_
                              refine g_istore (lv2 := [(0, .ref (bd 0)), (1, .int s), (2, .int l), (3, .int r), (4, .long (wO M k)), (6, .long (wO M k)), (8, .int 1), (9, .int 1), (10, .int (nI k))]) C dX2_cut_222 (by decide) rfl ?_
                              refine g_iinc (v := nI (k + 1)) (lv2 := [(0, .ref (bd 0)), (1, .int s), (2, .int l), (3, .int r), (4, .long (wO M k)), (6, .long (wO M k)), (8, .int 1), (9, .int 1), (10, .int (nI (k + 1)))]) C dX2_cut_224 rfl (nI_inc k) (by decide) rfl ?_
                              refine g_goto (tgt := 131) C dX2_cut_227 (by decide) ?_
                              exact g_lvs [0, 1, 2, 3, 4, 5, 6, 7, 8] rfl (ihlq (k + 1) true true _ _ (by omega) (by omega) (by rw [mcL_s hlq2, c145_6, cond_true, c150_10, cond_true, if_neg c161_14, c188_18, cond_true, c193_19, cond_false]))
                            · skip
                              refine g_aload_n (i := 0) C dX2_cut_196 rfl rfl ?_
                              refine g_iload C dX2_cut_197 rfl ?_
                              refine g_callV (av := [.int (nI k)]) C dX2_cut_199 ln_X2_73 mf_X2_worthOf 0 rfl rfl (kX2_worthOf K bd M X (nI k) (isReg_nI (by omega)) (hd _ (by rw [nI_clamp (by omega)]; omega))) rfl rfl (Nat.le_of_ble_eq_true rfl) ⟨Nat.le_of_ble_eq_true rfl, Nat.le_of_ble_eq_true rfl⟩ ⟨Nat.zero_le _, Nat.zero_le _⟩ (fun _ => ?_)
                              refine g_eql (congrArg (wO M) (nI_clamp (by omega))) ?_
                              refine g_lload C dX2_cut_202 rfl ?_
                              refine g_lcmp_ge (tgt := 217) C dX2_cut_204 dX2_cut_205 (by decide) (fun c204_20 => ?_) (fun c204_20 => ?_)
                              · skip
                                refine g_lload C dX2_cut_217 rfl ?_
                                refine g_lstore (lv2 := [(0, .ref (bd 0)), (1, .int s), (2, .int l), (3, .int r), (4, .long (wO M k)), (6, .long y), (8, .int 1), (9, .int (bz b)), (10, .int (nI k))]) C dX2_cut_219 (by decide) rfl ?_
                                refine g_iconst (v := 1) C dX2_cut_221 (by decide) ?_
                                refine g_istore (lv2 := [(0, .ref (bd 0)), (1, .int s), (2, .int l), (3, .int r), (4, .long (wO M k)), (6, .long y), (8, .int 1), (9, .int 1), (10, .int (nI k))]) C dX2_cut_222 (by decide) rfl ?_
                                refine g_iinc (v := nI (k + 1)) (lv2 := [(0, .ref (bd 0)), (1, .int s), (2, .int l), (3, .int r), (4, .long (wO M k)), (6, .long y), (8, .int 1), (9, .int 1), (10, .int (nI (k + 1)))]) C dX2_cut_224 rfl (nI_inc k) (by decide) rfl ?_
                                refine g_goto (tgt := 131) C dX2_cut_227 (by decide) ?_
                                exact g_lvs [0, 1, 2, 3, 4, 5, 6, 7, 8] rfl (ihlq (k + 1) true true _ _ (by omega) (by omega) (by rw [mcL_s hlq2, c145_6, cond_true, c150_10, cond_true, if_neg c161_14, c188_18, cond_true, c193_19, cond_true, if_pos c204_20]))
                              · skip
                                refine g_aload_n (i := 0) C dX2_cut_208 rfl rfl ?_
                                refine g_iload C dX2_cut_209 rfl ?_
                                refine g_callV (av := [.int (nI k)]) C dX2_cut_211 ln_X2_73 mf_X2_worthOf 0 rfl rfl (kX2_worthOf K bd M X (nI k) (isReg_nI (by omega)) (hd _ (by rw [nI_clamp (by omega)]; omega))) rfl rfl (Nat.le_of_ble_eq_true rfl) ⟨Nat.le_of_ble_eq_true rfl, Nat.le_of_ble_eq_true rfl⟩ ⟨Nat.zero_le _, Nat.zero_le _⟩ (fun _ => ?_)
                                refine g_eql (congrArg (wO M) (nI_clamp (by omega))) ?_
                                refine g_goto (tgt := 219) C dX2_cut_214 (by decide) ?_
                                refine g_lstore (lv2 := [(0, .ref (bd 0)), (1, .int s), (2, .int l), (3, .int r), (4, .long (wO M k)), (6, .long (wO M k)), (8, .int 1), (9, .int (bz b)), (10, .int (nI k))]) C dX2_cut_219 (by decide) rfl ?_
                                refine g_iconst (v := 1) C dX2_cut_221 (by decide) ?_
                                refine g_istore (lv2 := [(0, .ref (bd 0)), (1, .int s), (2, .int l), (3, .int r), (4, .long (wO M k)), (6, .long (wO M k)), (8, .int 1), (9, .int 1), (10, .int (nI k))]) C dX2_cut_222 (by decide) rfl ?_
                                refine g_iinc (v := nI (k + 1)) (lv2 := [(0, .ref (bd 0)), (1, .int s), (2, .int l), (3, .int r), (4, .long (wO M k)), (6, .long (wO M k)), (8, .int 1), (9, .int 1), (10, .int (nI (k + 1)))]) C dX2_cut_224 rfl (nI_inc k) (by decide) rfl ?_
                                refine g_goto (tgt := 131) C dX2_cut_227 (by decide) ?_
                                exact g_lvs [0, 1, 2, 3, 4, 5, 6, 7, 8] rfl (ihlq (k + 1) true true _ _ (by omega) (by omega) (by rw [mcL_s hlq2, c145_6, cond_true, c150_10, cond_true, if_neg c161_14, c188_18, cond_true, c193_19, cond_true, if_neg c204_20]))
              exact g_lvs [0, 1, 2, 3, 4, 5, 6, 7, 8] rfl (lq 13 0 false false 0 0 (by omega) (by omega) rfl)
            · skip
              have ei : i < 12 := nlt (a := 12) c52_4 (by decide) (by omega)
              refine g_iconst (v := 0) C dX2_cut_55 (by decide) ?_
              refine g_istore (lv2 := [(0, .ref (bd 0)), (1, .int s), (2, .int l), (3, .int r), (4, .long 0), (6, .long 0), (8, .int 0), (9, .int 0), (10, .int (nI i)), (11, .int 0)]) C dX2_cut_56 (by decide) rfl ?_
              have li : ∀ (fuel2 : Nat) (j : Nat), j ≤ 12 → 12 < j + fuel2 → fqI M l r i (12 - j) j = fqI M l r i 12 0 → G E K 0 0 (mW K bd M X) [(0, .ref (bd 0)), (1, .int s), (2, .int l), (3, .int r), (4, .long 0), (6, .long 0), (8, .int 0), (9, .int 0), (10, .int (nI i)), (11, .int (nI j))] 58 [] := by
                intro fuel2
                induction fuel2 with
                | zero =>
                  intro j hli0 hli1 hli2
                  omega
                | succ fuel2 ihli =>
                  intro j hli0 hli1 hli2
                  refine g_iload C dX2_cut_58 rfl ?_
                  refine g_bipush (v := 12) C dX2_cut_60 (by decide) ?_
                  refine g_icmp_ge (tgt := 122) C dX2_cut_62 (by decide) (fun c62_21 => ?_) (fun c62_21 => ?_)
                  · skip
                    have ej : j = 12 := by have := nle (a := 12) c62_21 (by decide) (by omega); omega
                    have hin : fqI M l r i 12 0 = none := hli2.symm.trans (by rw [ej]; rfl)
                    refine g_iinc (v := nI (i + 1)) (lv2 := [(0, .ref (bd 0)), (1, .int s), (2, .int l), (3, .int r), (4, .long 0), (6, .long 0), (8, .int 0), (9, .int 0), (10, .int (nI (i + 1))), (11, .int (nI j))]) C dX2_cut_122 rfl (nI_inc i) (by decide) rfl ?_
                    refine g_goto (tgt := 48) C dX2_cut_125 (by decide) ?_
                    exact g_lvs [0, 1, 2, 3, 4, 5, 6, 7, 8] rfl (ihlo (i + 1) (by omega) (by omega) ((fqO_n ei hin).symm.trans hlo2))
                  · skip
                    have ej : j < 12 := nlt (a := 12) c62_21 (by decide) (by omega)
                    refine g_iload_n (i := 2) C dX2_cut_65 rfl rfl ?_
                    refine g_iload C dX2_cut_66 rfl ?_
                    refine g_ishr C dX2_cut_68 ?_
                    refine g_iconst (v := 1) C dX2_cut_69 (by decide) ?_
                    refine g_iand C dX2_cut_70 ?_
                    refine g_eqi (sbz l (nI i)) ?_
                    refine g_iconst (v := 1) C dX2_cut_71 (by decide) ?_
                    refine g_bz1_ne (tgt := 122) C dX2_cut_72 (by decide) (fun c72_22 => ?_) (fun c72_22 => ?_)
                    · skip
                      have hin : fqI M l r i 12 0 = none := hli2.symm.trans (by rw [fqI_s ej, c72_22, cond_false])
                      refine g_iinc (v := nI (i + 1)) (lv2 := [(0, .ref (bd 0)), (1, .int s), (2, .int l), (3, .int r), (4, .long 0), (6, .long 0), (8, .int 0), (9, .int 0), (10, .int (nI (i + 1))), (11, .int (nI j))]) C dX2_cut_122 rfl (nI_inc i) (by decide) rfl ?_
                      refine g_goto (tgt := 48) C dX2_cut_125 (by decide) ?_
                      exact g_lvs [0, 1, 2, 3, 4, 5, 6, 7, 8] rfl (ihlo (i + 1) (by omega) (by omega) ((fqO_n ei hin).symm.trans hlo2))
                    · skip
                      refine g_iload_n (i := 3) C dX2_cut_75 rfl rfl ?_
                      refine g_iload C dX2_cut_76 rfl ?_
                      refine g_ishr C dX2_cut_78 ?_
                      refine g_iconst (v := 1) C dX2_cut_79 (by decide) ?_
                      refine g_iand C dX2_cut_80 ?_
                      refine g_eqi (sbz r (nI j)) ?_
                      refine g_iconst (v := 1) C dX2_cut_81 (by decide) ?_
                      refine g_bz1_ne (tgt := 116) C dX2_cut_82 (by decide) (fun c82_23 => ?_) (fun c82_23 => ?_)
                      · skip
                        refine g_iinc (v := nI (j + 1)) (lv2 := [(0, .ref (bd 0)), (1, .int s), (2, .int l), (3, .int r), (4, .long 0), (6, .long 0), (8, .int 0), (9, .int 0), (10, .int (nI i)), (11, .int (nI (j + 1)))]) C dX2_cut_116 rfl (nI_inc j) (by decide) rfl ?_
                        refine g_goto (tgt := 58) C dX2_cut_119 (by decide) ?_
                        exact g_lvs [0, 1, 2, 3, 4, 5, 6, 7, 8, 9] rfl (ihli (j + 1) (by omega) (by omega) (by rw [← hli2, fqI_s (j := j) ej, c72_22, cond_true, c82_23, cond_false]))
                      · skip
                        refine g_aload_n (i := 0) C dX2_cut_85 rfl rfl ?_
                        refine g_iload C dX2_cut_86 rfl ?_
                        refine g_callV (av := [.int (nI i)]) C dX2_cut_88 ln_X2_73 mf_X2_worthOf 0 rfl rfl (kX2_worthOf K bd M X (nI i) (isReg_nI (by omega)) (hd _ (by rw [nI_clamp (by omega)]; omega))) rfl rfl (Nat.le_of_ble_eq_true rfl) ⟨Nat.le_of_ble_eq_true rfl, Nat.le_of_ble_eq_true rfl⟩ ⟨Nat.zero_le _, Nat.zero_le _⟩ (fun _ => ?_)
                        refine g_eql (congrArg (wO M) (nI_clamp (by omega))) ?_
                        refine g_aload_n (i := 0) C dX2_cut_91 rfl rfl ?_
                        refine g_iload C dX2_cut_92 rfl ?_
                        refine g_callV (av := [.int (nI j)]) C dX2_cut_94 ln_X2_73 mf_X2_worthOf 0 rfl rfl (kX2_worthOf K bd M X (nI j) (isReg_nI (by omega)) (hd _ (by rw [nI_clamp (by omega)]; omega))) rfl rfl (Nat.le_of_ble_eq_true rfl) ⟨Nat.le_of_ble_eq_true rfl, Nat.le_of_ble_eq_true rfl⟩ ⟨Nat.zero_le _, Nat.zero_le _⟩ (fun _ => ?_)
                        refine g_eql (congrArg (wO M) (nI_clamp (by omega))) ?_
                        refine g_lcmp_lt (tgt := 116) C dX2_cut_97 dX2_cut_98 (by decide) (fun c97_24 => ?_) (fun c97_24 => ?_)
                        · skip
                          refine g_iinc (v := nI (j + 1)) (lv2 := [(0, .ref (bd 0)), (1, .int s), (2, .int l), (3, .int r), (4, .long 0), (6, .long 0), (8, .int 0), (9, .int 0), (10, .int (nI i)), (11, .int (nI (j + 1)))]) C dX2_cut_116 rfl (nI_inc j) (by decide) rfl ?_
                          refine g_goto (tgt := 58) C dX2_cut_119 (by decide) ?_
                          exact g_lvs [0, 1, 2, 3, 4, 5, 6, 7, 8, 9] rfl (ihli (j + 1) (by omega) (by omega) (by rw [← hli2, fqI_s (j := j) ej, c72_22, cond_true, c82_23, cond_true, if_pos c97_24]))
                        · skip
                          refine g_aload_n (i := 0) C dX2_cut_101 rfl rfl ?_
                          refine g_iload C dX2_cut_102 rfl ?_
                          refine g_put (Wd2 := mW K bd (M.1, M.2.1, nI i, M.2.2.2.1, M.2.2.2.2.1, M.2.2.2.2.2.1, M.2.2.2.2.2.2.1, M.2.2.2.2.2.2.2.1, M.2.2.2.2.2.2.2.2.1, M.2.2.2.2.2.2.2.2.2) X) C dX2_cut_104 fp_X2_16 0 rfl rfl rfl (Nat.le_of_ble_eq_true rfl) rfl ?_
                          refine g_aload_n (i := 0) C dX2_cut_107 rfl rfl ?_
                          refine g_iload C dX2_cut_108 rfl ?_
                          refine g_put (Wd2 := mW K bd (M.1, M.2.1, nI i, nI j, M.2.2.2.2.1, M.2.2.2.2.2.1, M.2.2.2.2.2.2.1, M.2.2.2.2.2.2.2.1, M.2.2.2.2.2.2.2.2.1, M.2.2.2.2.2.2.2.2.2) X) C dX2_cut_110 fp_X2_20 0 rfl rfl rfl (Nat.le_of_ble_eq_true rfl) rfl ?_
                          refine g_bipush (v := (-2)) C dX2_cut_113 (by decide) ?_
                          exact hR _ _ _ _ () dX2_cut_115 (by rw [mCut, c4_1, cond_true, c16_2, cond_true, c28_3, cond_true, ← hlo2, fqO_y ei (by rw [← hli2, fqI_s (j := j) ej, c72_22, cond_true, c82_23, cond_true, if_neg c97_24])] <;> rfl) (by show _ = mW K bd (mCut M s l r).2 X; rw [mCut, c4_1, cond_true, c16_2, cond_true, c28_3, cond_true, ← hlo2, fqO_y ei (by rw [← hli2, fqI_s (j := j) ej, c72_22, cond_true, c82_23, cond_true, if_neg c97_24])] <;> rfl)
              exact g_lvs [0, 1, 2, 3, 4, 5, 6, 7, 8, 9] rfl (li 13 0 (by omega) (by omega) rfl)
        exact g_lvs [0, 1, 2, 3, 4, 5, 6, 7, 8] rfl (lo 13 0 (by omega) (by omega) rfl)
      · skip
        refine g_iconst (v := (-1)) C dX2_cut_31 (by decide) ?_
        exact hR _ _ _ _ () dX2_cut_32 (by rw [mCut, c4_1, cond_true, c16_2, cond_true, c28_3, cond_false] <;> rfl) (by show _ = mW K bd (mCut M s l r).2 X; rw [mCut, c4_1, cond_true, c16_2, cond_true, c28_3, cond_false] <;> rfl)

set_option maxHeartbeats 600000 in
set_option maxRecDepth 100000 in
theorem kX2_born (K : KT) (bd : Nat → Nat) (M : MSt) (X : va_W) (s : Int32) (d : Int32) (i : Int32) : ∀ lau : Launch, Con lau yX2_born cX2_born 5 (some .int) 2 45 K (mW K bd M X) (fun _ : Unit => mW K bd ((mBorn M s d i).2) X) [.ref (bd 0), .int s, .int d, .int i] (some (.int ((mBorn M s d i).1))) := by
  refine conI (by decide) (Nat.le_of_ble_eq_true rfl) (fun E C hR => ?_)
  show G E K 0 0 (mW K bd M X) [(0, .ref (bd 0)), (1, .int s), (2, .int d), (3, .int i)] 0 []
  refine g_iload_n (i := 1) C dX2_born_0 rfl rfl ?_
  refine g_callS (av := [.int s]) C dX2_born_1 ln_X2_52 mf_X2_isRegister (kX2_isRegister K (mW K bd M X) s) rfl rfl (Nat.le_of_ble_eq_true rfl) ⟨Nat.le_of_ble_eq_true rfl, Nat.le_of_ble_eq_true rfl⟩ ⟨Nat.zero_le _, Nat.zero_le _⟩ (fun _ => ?_)
  refine g_bz_eq (tgt := 34) C dX2_born_4 (by decide) (fun c4_1 => ?_) (fun c4_1 => ?_)
  · skip
    refine g_iconst (v := (-1)) C dX2_born_34 (by decide) ?_
    exact hR _ _ _ _ () dX2_born_35 (by rw [mBorn, c4_1, cond_false] <;> rfl) (by show _ = mW K bd (mBorn M s d i).2 X; rw [mBorn, c4_1, cond_false] <;> rfl)
  · skip
    refine g_iload_n (i := 2) C dX2_born_7 rfl rfl ?_
    refine g_i2l (v := Int32.toInt64 d) C dX2_born_8 rfl ?_
    refine g_lconst (v := 0) C dX2_born_9 (by decide) ?_
    refine g_ldc2 (v := 20) C dX2_born_10 kc_X2_62 ?_
    refine g_callS (av := [.long (Int32.toInt64 d), .long 0, .long 20]) C dX2_born_13 ln_X2_32 mf_X2_in (kX2_in K (mW K bd M X) (Int32.toInt64 d) 0 20) rfl rfl (Nat.le_of_ble_eq_true rfl) ⟨Nat.le_of_ble_eq_true rfl, Nat.le_of_ble_eq_true rfl⟩ ⟨Nat.zero_le _, Nat.zero_le _⟩ (fun _ => ?_)
    refine g_bz_eq (tgt := 34) C dX2_born_16 (by decide) (fun c16_2 => ?_) (fun c16_2 => ?_)
    · skip
      refine g_iconst (v := (-1)) C dX2_born_34 (by decide) ?_
      exact hR _ _ _ _ () dX2_born_35 (by rw [mBorn, c4_1, cond_true, c16_2, cond_false] <;> rfl) (by show _ = mW K bd (mBorn M s d i).2 X; rw [mBorn, c4_1, cond_true, c16_2, cond_false] <;> rfl)
    · skip
      refine g_iload_n (i := 3) C dX2_born_19 rfl rfl ?_
      refine g_i2l (v := Int32.toInt64 i) C dX2_born_20 rfl ?_
      refine g_lconst (v := 0) C dX2_born_21 (by decide) ?_
      refine g_iconst (v := 1) C dX2_born_22 (by decide) ?_
      refine g_iload_n (i := 2) C dX2_born_23 rfl rfl ?_
      refine g_ishl C dX2_born_24 ?_
      refine g_iconst (v := 1) C dX2_born_25 (by decide) ?_
      refine g_isub C dX2_born_26 ?_
      refine g_i2l (v := Int32.toInt64 ((1 <<< (d &&& 31)) - 1)) C dX2_born_27 rfl ?_
      refine g_callS (av := [.long (Int32.toInt64 i), .long 0, .long (Int32.toInt64 ((1 <<< (d &&& 31)) - 1))]) C dX2_born_28 ln_X2_32 mf_X2_in (kX2_in K (mW K bd M X) (Int32.toInt64 i) 0 (Int32.toInt64 ((1 <<< (d &&& 31)) - 1))) rfl rfl (Nat.le_of_ble_eq_true rfl) ⟨Nat.le_of_ble_eq_true rfl, Nat.le_of_ble_eq_true rfl⟩ ⟨Nat.zero_le _, Nat.zero_le _⟩ (fun _ => ?_)
      refine g_bz_ne (tgt := 36) C dX2_born_31 (by decide) (fun c31_3 => ?_) (fun c31_3 => ?_)
      · skip
        refine g_aload_n (i := 0) C dX2_born_36 rfl rfl ?_
        refine g_iload_n (i := 2) C dX2_born_37 rfl rfl ?_
        refine g_put (Wd2 := mW K bd (M.1, M.2.1, M.2.2.1, M.2.2.2.1, M.2.2.2.2.1, M.2.2.2.2.2.1, d, M.2.2.2.2.2.2.2.1, M.2.2.2.2.2.2.2.2.1, M.2.2.2.2.2.2.2.2.2) X) C dX2_born_38 fp_X2_44 0 rfl rfl rfl (Nat.le_of_ble_eq_true rfl) rfl ?_
        refine g_aload_n (i := 0) C dX2_born_41 rfl rfl ?_
        refine g_iconst (v := 0) C dX2_born_42 (by decide) ?_
        refine g_put (Wd2 := mW K bd (M.1, M.2.1, M.2.2.1, M.2.2.2.1, M.2.2.2.2.1, M.2.2.2.2.2.1, d, 0, M.2.2.2.2.2.2.2.2.1, M.2.2.2.2.2.2.2.2.2) X) C dX2_born_43 fp_X2_47 0 rfl rfl rfl (Nat.le_of_ble_eq_true rfl) rfl ?_
        refine g_iconst (v := 0) C dX2_born_46 (by decide) ?_
        refine g_istore (lv2 := [(0, .ref (bd 0)), (1, .int s), (2, .int d), (3, .int i), (4, .int 0)]) C dX2_born_47 (by decide) rfl ?_
        obtain ⟨n, hn, en⟩ := in20 c16_2
        have lo : ∀ (fuel : Nat) (k : Nat) (x : Int32), k ≤ n → n < k + fuel → x = brM i d k → G E K 0 0 (mW K bd (M.1, M.2.1, M.2.2.1, M.2.2.2.1, M.2.2.2.2.1, M.2.2.2.2.2.1, d, x, M.2.2.2.2.2.2.2.2.1, M.2.2.2.2.2.2.2.2.2) X) [(0, .ref (bd 0)), (1, .int s), (2, .int d), (3, .int i), (4, .int (nI k))] 49 [] := by
          intro fuel
          induction fuel with
          | zero =>
            intro k x hlo0 hlo1 hlo2
            omega
          | succ fuel ihlo =>
            intro k x hlo0 hlo1 hlo2
            refine g_iload C dX2_born_49 rfl ?_
            refine g_iload_n (i := 2) C dX2_born_51 rfl rfl ?_
            refine g_icmp_ge (tgt := 83) C dX2_born_52 (by decide) (fun c52_4 => ?_) (fun c52_4 => ?_)
            · skip
              rw [en] at c52_4
              have ek : k = n := by have := nle c52_4 (by omega) (by omega); omega
              refine g_aload_n (i := 0) C dX2_born_83 rfl rfl ?_
              refine g_iload_n (i := 1) C dX2_born_84 rfl rfl ?_
              refine g_iconst (v := 1) C dX2_born_85 (by decide) ?_
              refine g_callV (av := [.int s, .int 1]) C dX2_born_86 ln_X2_68 mf_X2_keeps 0 rfl rfl (kX2_keeps K bd (M.1, M.2.1, M.2.2.1, M.2.2.2.1, M.2.2.2.2.1, M.2.2.2.2.2.1, d, x, M.2.2.2.2.2.2.2.2.1, M.2.2.2.2.2.2.2.2.2) X s true c4_1) rfl rfl (Nat.le_of_ble_eq_true rfl) ⟨Nat.le_of_ble_eq_true rfl, Nat.le_of_ble_eq_true rfl⟩ ⟨Nat.zero_le _, Nat.zero_le _⟩ (fun _ => ?_)
              exact hR _ _ _ _ () dX2_born_89 (by have e2 : d.toNatClampNeg = k := (by rw [en, nI_clamp (by omega), ek]); rw [mBorn, c4_1, cond_true, c16_2, cond_true, c31_3, cond_true, e2, ← hlo2]) (by show _ = mW K bd (mBorn M s d i).2 X; have e2 : d.toNatClampNeg = k := (by rw [en, nI_clamp (by omega), ek]); rw [mBorn, c4_1, cond_true, c16_2, cond_true, c31_3, cond_true, e2, ← hlo2])
            · skip
              rw [en] at c52_4
              have ek : k < n := nlt c52_4 (by omega) (by omega)
              refine g_aload_n (i := 0) C dX2_born_55 rfl rfl ?_
              refine g_dup C dX2_born_56 rfl ?_
              refine g_get C dX2_born_57 fl_X2_47 0 rfl rfl ?_
              refine g_iload_n (i := 3) C dX2_born_60 rfl rfl ?_
              refine g_iload_n (i := 2) C dX2_born_61 rfl rfl ?_
              refine g_iconst (v := 1) C dX2_born_62 (by decide) ?_
              refine g_isub C dX2_born_63 ?_
              refine g_iload C dX2_born_64 rfl ?_
              refine g_isub C dX2_born_66 ?_
              refine g_ishr C dX2_born_67 ?_
              refine g_iconst (v := 1) C dX2_born_68 (by decide) ?_
              refine g_iand C dX2_born_69 ?_
              refine g_eqi (sbz i ((d - 1) - (nI k))) ?_
              refine g_iload C dX2_born_70 rfl ?_
              refine g_ishl C dX2_born_72 ?_
              refine g_ior C dX2_born_73 ?_
              refine g_put (Wd2 := mW K bd (M.1, M.2.1, M.2.2.1, M.2.2.2.1, M.2.2.2.2.1, M.2.2.2.2.2.1, d, x ||| ((bz (tb i ((d - 1) - (nI k)))) <<< ((nI k) &&& 31)), M.2.2.2.2.2.2.2.2.1, M.2.2.2.2.2.2.2.2.2) X) C dX2_born_74 fp_X2_47 0 rfl rfl rfl (Nat.le_of_ble_eq_true rfl) rfl ?_
              refine g_iinc (v := nI (k + 1)) (lv2 := [(0, .ref (bd 0)), (1, .int s), (2, .int d), (3, .int i), (4, .int (nI (k + 1)))]) C dX2_born_77 rfl (nI_inc k) (by decide) rfl ?_
              refine g_goto (tgt := 49) C dX2_born_80 (by decide) ?_
              exact g_lvs [0, 1, 2, 3, 4] rfl (ihlo (k + 1) _ (by omega) (by omega) (by rw [brM, hlo2]))
        exact g_lvs [0, 1, 2, 3, 4] rfl (lo (n + 1) 0 0 (by omega) (by omega) rfl)
      · skip
        refine g_iconst (v := (-1)) C dX2_born_34 (by decide) ?_
        exact hR _ _ _ _ () dX2_born_35 (by rw [mBorn, c4_1, cond_true, c16_2, cond_true, c31_3, cond_false] <;> rfl) (by show _ = mW K bd (mBorn M s d i).2 X; rw [mBorn, c4_1, cond_true, c16_2, cond_true, c31_3, cond_false] <;> rfl)

set_option maxHeartbeats 600000 in
set_option maxRecDepth 100000 in
theorem kX2_lesser (K : KT) (bd : Nat → Nat) (M : MSt) (X : va_W) (s : Int32) (d0 : Int32) (hs : isReg s = true) (hd : ∃ k : Nat, k ≤ 24 ∧ dyM M s = nI k) (hdy : ∃ k : Nat, k ≤ 20 ∧ d0 = nI k) : ∀ lau : Launch, Con lau yX2_lesser cX2_lesser 5 (some .int) 1 21 K (mW K bd M X) (fun _ : Unit => mW K bd M X) [.ref (bd 0), .int s, .int d0] (some (.int (mLs M s d0))) := by
  refine conI (by decide) (Nat.le_of_ble_eq_true rfl) (fun E C hR => ?_)
  show G E K 0 0 (mW K bd M X) [(0, .ref (bd 0)), (1, .int s), (2, .int d0)] 0 []
  refine g_iconst (v := 0) C dX2_lesser_0 (by decide) ?_
  refine g_istore_n (i := 3) (lv2 := [(0, .ref (bd 0)), (1, .int s), (2, .int d0), (3, .int 0)]) C dX2_lesser_1 rfl (by decide) rfl ?_
  refine g_iconst (v := 0) C dX2_lesser_2 (by decide) ?_
  refine g_istore (lv2 := [(0, .ref (bd 0)), (1, .int s), (2, .int d0), (3, .int 0), (4, .int 0)]) C dX2_lesser_3 (by decide) rfl ?_
  obtain ⟨k, hk, ek⟩ := hd
  obtain ⟨d, hdd, rfl⟩ := hdy
  have lo : ∀ (fuel : Nat) (i : Nat) (a : Int32), i ≤ min k (d + 1) → min k (d + 1) < i + fuel → a = lsL (sgM M s) (nI d) i → G E K 0 0 (mW K bd M X) [(0, .ref (bd 0)), (1, .int s), (2, .int (nI d)), (3, .int a), (4, .int (nI i))] 5 [] := by
    intro fuel
    induction fuel with
    | zero =>
      intro i a hlo0 hlo1 hlo2
      omega
    | succ fuel ihlo =>
      intro i a hlo0 hlo1 hlo2
      refine g_iload C dX2_lesser_5 rfl ?_
      refine g_aload_n (i := 0) C dX2_lesser_7 rfl rfl ?_
      refine g_get C dX2_lesser_8 fl_X2_7 0 rfl rfl ?_
      refine g_iload_n (i := 1) C dX2_lesser_11 rfl rfl ?_
      refine g_iald C dX2_lesser_12 1 rfl (isReg_in hs) ?_
      refine g_icmp_ge (tgt := 60) C dX2_lesser_13 (by decide) (fun c13_1 => ?_) (fun c13_1 => ?_)
      · skip
        rw [show M.1 s.toNatClampNeg = nI k from ek] at c13_1
        have ei : i = min k (d + 1) := by have := nle c13_1 (by omega) (by omega); omega
        refine g_aload_n (i := 0) C dX2_lesser_60 rfl rfl ?_
        refine g_get C dX2_lesser_61 fl_X2_7 0 rfl rfl ?_
        refine g_iload_n (i := 1) C dX2_lesser_64 rfl rfl ?_
        refine g_iald C dX2_lesser_65 1 rfl (isReg_in hs) ?_
        refine g_iload_n (i := 2) C dX2_lesser_66 rfl rfl ?_
        refine g_icmp_gt (tgt := 87) C dX2_lesser_67 (by decide) (fun c67_2 => ?_) (fun c67_2 => ?_)
        · skip
          refine g_iload_n (i := 3) C dX2_lesser_87 rfl rfl ?_
          exact hR _ _ _ _ () dX2_lesser_88 (by rw [mLs, if_pos (show nI d < dyM M s from c67_2), show dyM M s = nI k from ek, nI_clamp (by omega), nI_clamp (by omega), ← ei, ← hlo2] <;> (try rw [← ek]) <;> rfl) (rfl)
        · skip
          refine g_iload_n (i := 3) C dX2_lesser_70 rfl rfl ?_
          refine g_aload_n (i := 0) C dX2_lesser_71 rfl rfl ?_
          refine g_get C dX2_lesser_72 fl_X2_7 0 rfl rfl ?_
          refine g_iload_n (i := 1) C dX2_lesser_75 rfl rfl ?_
          refine g_iald C dX2_lesser_76 1 rfl (isReg_in hs) ?_
          refine g_iconst (v := 1) C dX2_lesser_77 (by decide) ?_
          refine g_iadd C dX2_lesser_78 ?_
          refine g_iload_n (i := 2) C dX2_lesser_79 rfl rfl ?_
          refine g_callS (av := [.int ((M.1 s.toNatClampNeg) + 1), .int (nI d)]) C dX2_lesser_80 ln_X2_89 mf_X2_size (kX2_size K (mW K bd M X) ((M.1 s.toNatClampNeg) + 1) (nI d)) rfl rfl (Nat.le_of_ble_eq_true rfl) ⟨Nat.le_of_ble_eq_true rfl, Nat.le_of_ble_eq_true rfl⟩ ⟨Nat.zero_le _, Nat.zero_le _⟩ (fun _ => ?_)
          refine g_iadd C dX2_lesser_83 ?_
          refine g_goto (tgt := 88) C dX2_lesser_84 (by decide) ?_
          exact hR _ _ _ _ () dX2_lesser_88 (by rw [mLs, if_neg (show ¬ nI d < dyM M s from c67_2), show dyM M s = nI k from ek, nI_clamp (by omega), nI_clamp (by omega), ← ei, ← hlo2] <;> (try rw [← ek]) <;> rfl) (rfl)
      · skip
        rw [show M.1 s.toNatClampNeg = nI k from ek] at c13_1
        have ei1 : i < k := nlt c13_1 (by omega) (by omega)
        refine g_iload C dX2_lesser_16 rfl ?_
        refine g_iload_n (i := 2) C dX2_lesser_18 rfl rfl ?_
        refine g_icmp_gt (tgt := 60) C dX2_lesser_19 (by decide) (fun c19_3 => ?_) (fun c19_3 => ?_)
        · skip
          have ei : i = min k (d + 1) := by have : d < i := (nI_ltI (by omega) (by omega)).mp c19_3; omega
          refine g_aload_n (i := 0) C dX2_lesser_60 rfl rfl ?_
          refine g_get C dX2_lesser_61 fl_X2_7 0 rfl rfl ?_
          refine g_iload_n (i := 1) C dX2_lesser_64 rfl rfl ?_
          refine g_iald C dX2_lesser_65 1 rfl (isReg_in hs) ?_
          refine g_iload_n (i := 2) C dX2_lesser_66 rfl rfl ?_
          refine g_icmp_gt (tgt := 87) C dX2_lesser_67 (by decide) (fun c67_4 => ?_) (fun c67_4 => ?_)
          · skip
            refine g_iload_n (i := 3) C dX2_lesser_87 rfl rfl ?_
            exact hR _ _ _ _ () dX2_lesser_88 (by rw [mLs, if_pos (show nI d < dyM M s from c67_4), show dyM M s = nI k from ek, nI_clamp (by omega), nI_clamp (by omega), ← ei, ← hlo2] <;> (try rw [← ek]) <;> rfl) (rfl)
          · skip
            refine g_iload_n (i := 3) C dX2_lesser_70 rfl rfl ?_
            refine g_aload_n (i := 0) C dX2_lesser_71 rfl rfl ?_
            refine g_get C dX2_lesser_72 fl_X2_7 0 rfl rfl ?_
            refine g_iload_n (i := 1) C dX2_lesser_75 rfl rfl ?_
            refine g_iald C dX2_lesser_76 1 rfl (isReg_in hs) ?_
            refine g_iconst (v := 1) C dX2_lesser_77 (by decide) ?_
            refine g_iadd C dX2_lesser_78 ?_
            refine g_iload_n (i := 2) C dX2_lesser_79 rfl rfl ?_
            refine g_callS (av := [.int ((M.1 s.toNatClampNeg) + 1), .int (nI d)]) C dX2_lesser_80 ln_X2_89 mf_X2_size (kX2_size K (mW K bd M X) ((M.1 s.toNatClampNeg) + 1) (nI d)) rfl rfl (Nat.le_of_ble_eq_true rfl) ⟨Nat.le_of_ble_eq_true rfl, Nat.le_of_ble_eq_true rfl⟩ ⟨Nat.zero_le _, Nat.zero_le _⟩ (fun _ => ?_)
            refine g_iadd C dX2_lesser_83 ?_
            refine g_goto (tgt := 88) C dX2_lesser_84 (by decide) ?_
            exact hR _ _ _ _ () dX2_lesser_88 (by rw [mLs, if_neg (show ¬ nI d < dyM M s from c67_4), show dyM M s = nI k from ek, nI_clamp (by omega), nI_clamp (by omega), ← ei, ← hlo2] <;> (try rw [← ek]) <;> rfl) (rfl)
        · skip
          have ei2 : i ≤ d := Nat.le_of_not_lt (fun q => c19_3 (nI_lt q (by omega)))
          refine g_iload_n (i := 3) C dX2_lesser_22 rfl rfl ?_
          refine g_aload_n (i := 0) C dX2_lesser_23 rfl rfl ?_
          refine g_get C dX2_lesser_24 fl_X2_13 0 rfl rfl ?_
          refine g_iload_n (i := 1) C dX2_lesser_27 rfl rfl ?_
          refine g_iald C dX2_lesser_28 2 rfl (isReg_in hs) ?_
          refine g_iload C dX2_lesser_29 rfl ?_
          refine g_ishr C dX2_lesser_31 ?_
          refine g_iconst (v := 1) C dX2_lesser_32 (by decide) ?_
          refine g_iand C dX2_lesser_33 ?_
          refine g_eqi (sbz (M.2.1 s.toNatClampNeg) (nI i)) ?_
          refine g_iconst (v := 1) C dX2_lesser_34 (by decide) ?_
          refine g_bz1_ne (tgt := 51) C dX2_lesser_35 (by decide) (fun c35_5 => ?_) (fun c35_5 => ?_)
          · skip
            refine g_iconst (v := 0) C dX2_lesser_51 (by decide) ?_
            refine g_iadd C dX2_lesser_52 ?_
            refine g_istore_n (i := 3) (lv2 := [(0, .ref (bd 0)), (1, .int s), (2, .int (nI d)), (3, .int (a + 0)), (4, .int (nI i))]) C dX2_lesser_53 rfl (by decide) rfl ?_
            refine g_iinc (v := nI (i + 1)) (lv2 := [(0, .ref (bd 0)), (1, .int s), (2, .int (nI d)), (3, .int (a + 0)), (4, .int (nI (i + 1)))]) C dX2_lesser_54 rfl (nI_inc i) (by decide) rfl ?_
            refine g_goto (tgt := 5) C dX2_lesser_57 (by decide) ?_
            exact g_lvs [0, 1, 2, 3, 4] rfl (ihlo (i + 1) _ (by omega) (by omega) (by rw [lsL, c35_5, cond_false, hlo2]))
          · skip
            refine g_iconst (v := 1) C dX2_lesser_38 (by decide) ?_
            refine g_iload C dX2_lesser_39 rfl ?_
            refine g_iconst (v := 1) C dX2_lesser_41 (by decide) ?_
            refine g_iadd C dX2_lesser_42 ?_
            refine g_iload_n (i := 2) C dX2_lesser_43 rfl rfl ?_
            refine g_callS (av := [.int ((nI i) + 1), .int (nI d)]) C dX2_lesser_44 ln_X2_89 mf_X2_size (kX2_size K (mW K bd M X) ((nI i) + 1) (nI d)) rfl rfl (Nat.le_of_ble_eq_true rfl) ⟨Nat.le_of_ble_eq_true rfl, Nat.le_of_ble_eq_true rfl⟩ ⟨Nat.zero_le _, Nat.zero_le _⟩ (fun _ => ?_)
            refine g_iadd C dX2_lesser_47 ?_
            refine g_goto (tgt := 52) C dX2_lesser_48 (by decide) ?_
            refine g_iadd C dX2_lesser_52 ?_
            refine g_istore_n (i := 3) (lv2 := [(0, .ref (bd 0)), (1, .int s), (2, .int (nI d)), (3, .int (a + (1 + (sizM ((nI i) + 1) (nI d))))), (4, .int (nI i))]) C dX2_lesser_53 rfl (by decide) rfl ?_
            refine g_iinc (v := nI (i + 1)) (lv2 := [(0, .ref (bd 0)), (1, .int s), (2, .int (nI d)), (3, .int (a + (1 + (sizM ((nI i) + 1) (nI d))))), (4, .int (nI (i + 1)))]) C dX2_lesser_54 rfl (nI_inc i) (by decide) rfl ?_
            refine g_goto (tgt := 5) C dX2_lesser_57 (by decide) ?_
            exact g_lvs [0, 1, 2, 3, 4] rfl (ihlo (i + 1) _ (by omega) (by omega) (by rw [lsL, c35_5, cond_true, hlo2]))
  exact g_lvs [0, 1, 2, 3, 4] rfl (lo (min k (d + 1) + 1) 0 0 (by omega) (by omega) rfl)

set_option maxHeartbeats 600000 in
set_option maxRecDepth 100000 in
theorem kX2_between (K : KT) (bd : Nat → Nat) (M : MSt) (X : va_W) (s : Int32) (t : Int32) (d : Int32) (hd : HD M) : ∀ lau : Launch, Con lau yX2_between cX2_between 4 (some .int) 2 49 K (mW K bd M X) (fun _ : Unit => mW K bd M X) [.ref (bd 0), .int s, .int t, .int d] (some (.int (mBet M s t d))) := by
  refine conI (by decide) (Nat.le_of_ble_eq_true rfl) (fun E C hR => ?_)
  show G E K 0 0 (mW K bd M X) [(0, .ref (bd 0)), (1, .int s), (2, .int t), (3, .int d)] 0 []
  refine g_iload_n (i := 1) C dX2_between_0 rfl rfl ?_
  refine g_callS (av := [.int s]) C dX2_between_1 ln_X2_52 mf_X2_isRegister (kX2_isRegister K (mW K bd M X) s) rfl rfl (Nat.le_of_ble_eq_true rfl) ⟨Nat.le_of_ble_eq_true rfl, Nat.le_of_ble_eq_true rfl⟩ ⟨Nat.zero_le _, Nat.zero_le _⟩ (fun _ => ?_)
  refine g_bz_eq (tgt := 26) C dX2_between_4 (by decide) (fun c4_1 => ?_) (fun c4_1 => ?_)
  · skip
    refine g_iconst (v := (-1)) C dX2_between_26 (by decide) ?_
    exact hR _ _ _ _ () dX2_between_27 (by rw [mBet, c4_1, cond_false] <;> rfl) (rfl)
  · skip
    refine g_iload_n (i := 2) C dX2_between_7 rfl rfl ?_
    refine g_callS (av := [.int t]) C dX2_between_8 ln_X2_52 mf_X2_isRegister (kX2_isRegister K (mW K bd M X) t) rfl rfl (Nat.le_of_ble_eq_true rfl) ⟨Nat.le_of_ble_eq_true rfl, Nat.le_of_ble_eq_true rfl⟩ ⟨Nat.zero_le _, Nat.zero_le _⟩ (fun _ => ?_)
    refine g_bz_eq (tgt := 26) C dX2_between_11 (by decide) (fun c11_2 => ?_) (fun c11_2 => ?_)
    · skip
      refine g_iconst (v := (-1)) C dX2_between_26 (by decide) ?_
      exact hR _ _ _ _ () dX2_between_27 (by rw [mBet, c4_1, cond_true, c11_2, cond_false] <;> rfl) (rfl)
    · skip
      refine g_iload_n (i := 3) C dX2_between_14 rfl rfl ?_
      refine g_i2l (v := Int32.toInt64 d) C dX2_between_15 rfl ?_
      refine g_lconst (v := 0) C dX2_between_16 (by decide) ?_
      refine g_ldc2 (v := 20) C dX2_between_17 kc_X2_62 ?_
      refine g_callS (av := [.long (Int32.toInt64 d), .long 0, .long 20]) C dX2_between_20 ln_X2_32 mf_X2_in (kX2_in K (mW K bd M X) (Int32.toInt64 d) 0 20) rfl rfl (Nat.le_of_ble_eq_true rfl) ⟨Nat.le_of_ble_eq_true rfl, Nat.le_of_ble_eq_true rfl⟩ ⟨Nat.zero_le _, Nat.zero_le _⟩ (fun _ => ?_)
      refine g_bz_ne (tgt := 28) C dX2_between_23 (by decide) (fun c23_3 => ?_) (fun c23_3 => ?_)
      · skip
        refine g_aload_n (i := 0) C dX2_between_28 rfl rfl ?_
        refine g_iload_n (i := 1) C dX2_between_29 rfl rfl ?_
        refine g_callV (av := [.int s]) C dX2_between_30 ln_X2_73 mf_X2_worthOf 0 rfl rfl (kX2_worthOf K bd M X s c4_1 (HD.r hd c4_1)) rfl rfl (Nat.le_of_ble_eq_true rfl) ⟨Nat.le_of_ble_eq_true rfl, Nat.le_of_ble_eq_true rfl⟩ ⟨Nat.zero_le _, Nat.zero_le _⟩ (fun _ => ?_)
        refine g_aload_n (i := 0) C dX2_between_33 rfl rfl ?_
        refine g_iload_n (i := 2) C dX2_between_34 rfl rfl ?_
        refine g_callV (av := [.int t]) C dX2_between_35 ln_X2_73 mf_X2_worthOf 0 rfl rfl (kX2_worthOf K bd M X t c11_2 (HD.r hd c11_2)) rfl rfl (Nat.le_of_ble_eq_true rfl) ⟨Nat.le_of_ble_eq_true rfl, Nat.le_of_ble_eq_true rfl⟩ ⟨Nat.zero_le _, Nat.zero_le _⟩ (fun _ => ?_)
        refine g_lcmp_lt (tgt := 45) C dX2_between_38 dX2_between_39 (by decide) (fun c38_4 => ?_) (fun c38_4 => ?_)
        · skip
          refine g_aload_n (i := 0) C dX2_between_45 rfl rfl ?_
          refine g_iload_n (i := 2) C dX2_between_46 rfl rfl ?_
          refine g_iload_n (i := 3) C dX2_between_47 rfl rfl ?_
          refine g_callV (av := [.int t, .int d]) C dX2_between_48 ln_X2_93 mf_X2_lesser 0 rfl rfl (kX2_lesser K bd M X t d c11_2 (HD.r hd c11_2) (in20 c23_3)) rfl rfl (Nat.le_of_ble_eq_true rfl) ⟨Nat.le_of_ble_eq_true rfl, Nat.le_of_ble_eq_true rfl⟩ ⟨Nat.zero_le _, Nat.zero_le _⟩ (fun _ => ?_)
          refine g_aload_n (i := 0) C dX2_between_51 rfl rfl ?_
          refine g_iload_n (i := 1) C dX2_between_52 rfl rfl ?_
          refine g_iload_n (i := 3) C dX2_between_53 rfl rfl ?_
          refine g_callV (av := [.int s, .int d]) C dX2_between_54 ln_X2_93 mf_X2_lesser 0 rfl rfl (kX2_lesser K bd M X s d c4_1 (HD.r hd c4_1) (in20 c23_3)) rfl rfl (Nat.le_of_ble_eq_true rfl) ⟨Nat.le_of_ble_eq_true rfl, Nat.le_of_ble_eq_true rfl⟩ ⟨Nat.zero_le _, Nat.zero_le _⟩ (fun _ => ?_)
          refine g_isub C dX2_between_57 ?_
          refine g_aload_n (i := 0) C dX2_between_58 rfl rfl ?_
          refine g_get C dX2_between_59 fl_X2_7 0 rfl rfl ?_
          refine g_iload_n (i := 1) C dX2_between_62 rfl rfl ?_
          refine g_iald C dX2_between_63 1 rfl (isReg_in c4_1) ?_
          refine g_iload_n (i := 3) C dX2_between_64 rfl rfl ?_
          refine g_dia_icmp_gt (tgt := 72) C dX2_between_65 dX2_between_68 dX2_between_69 dX2_between_72 (by decide) (by decide) trivial ?_
          refine g_isub C dX2_between_73 ?_
          exact hR _ _ _ _ () dX2_between_74 (by rw [mBet, c4_1, cond_true, c11_2, cond_true, c23_3, cond_true, if_pos c38_4] <;> rfl) (rfl)
        · skip
          refine g_bipush (v := (-2)) C dX2_between_42 (by decide) ?_
          exact hR _ _ _ _ () dX2_between_44 (by rw [mBet, c4_1, cond_true, c11_2, cond_true, c23_3, cond_true, if_neg c38_4] <;> rfl) (rfl)
      · skip
        refine g_iconst (v := (-1)) C dX2_between_26 (by decide) ?_
        exact hR _ _ _ _ () dX2_between_27 (by rw [mBet, c4_1, cond_true, c11_2, cond_true, c23_3, cond_false] <;> rfl) (rfl)

set_option maxHeartbeats 600000 in
set_option maxRecDepth 100000 in
theorem kX2_wins (K : KT) (bd : Nat → Nat) (M : MSt) (X : va_W) (x : Int32) (w : Int32) (hd : HD M) : ∀ lau : Launch, Con lau yX2_wins cX2_wins 8 (some .int) 2 49 K (mW K bd M X) (fun _ : Unit => mW K bd M X) [.ref (bd 0), .int x, .int w] (some (.int (mWins M x w))) := by
  refine conI (by decide) (Nat.le_of_ble_eq_true rfl) (fun E C hR => ?_)
  show G E K 0 0 (mW K bd M X) [(0, .ref (bd 0)), (1, .int x), (2, .int w)] 0 []
  refine g_iload_n (i := 1) C dX2_wins_0 rfl rfl ?_
  refine g_i2l (v := Int32.toInt64 x) C dX2_wins_1 rfl ?_
  refine g_lconst (v := 0) C dX2_wins_2 (by decide) ?_
  refine g_ldc2 (v := 4095) C dX2_wins_3 kc_X2_83 ?_
  refine g_callS (av := [.long (Int32.toInt64 x), .long 0, .long 4095]) C dX2_wins_6 ln_X2_32 mf_X2_in (kX2_in K (mW K bd M X) (Int32.toInt64 x) 0 4095) rfl rfl (Nat.le_of_ble_eq_true rfl) ⟨Nat.le_of_ble_eq_true rfl, Nat.le_of_ble_eq_true rfl⟩ ⟨Nat.zero_le _, Nat.zero_le _⟩ (fun _ => ?_)
  refine g_bz_eq (tgt := 22) C dX2_wins_9 (by decide) (fun c9_1 => ?_) (fun c9_1 => ?_)
  · skip
    refine g_iconst (v := (-1)) C dX2_wins_22 (by decide) ?_
    exact hR _ _ _ _ () dX2_wins_23 (by rw [mWins, c9_1, cond_false] <;> rfl) (rfl)
  · skip
    refine g_iload_n (i := 2) C dX2_wins_12 rfl rfl ?_
    refine g_i2l (v := Int32.toInt64 w) C dX2_wins_13 rfl ?_
    refine g_lconst (v := 0) C dX2_wins_14 (by decide) ?_
    refine g_lconst (v := 1) C dX2_wins_15 (by decide) ?_
    refine g_callS (av := [.long (Int32.toInt64 w), .long 0, .long 1]) C dX2_wins_16 ln_X2_32 mf_X2_in (kX2_in K (mW K bd M X) (Int32.toInt64 w) 0 1) rfl rfl (Nat.le_of_ble_eq_true rfl) ⟨Nat.le_of_ble_eq_true rfl, Nat.le_of_ble_eq_true rfl⟩ ⟨Nat.zero_le _, Nat.zero_le _⟩ (fun _ => ?_)
    refine g_bz_ne (tgt := 24) C dX2_wins_19 (by decide) (fun c19_2 => ?_) (fun c19_2 => ?_)
    · skip
      refine g_iconst (v := 0) C dX2_wins_24 (by decide) ?_
      refine g_istore_n (i := 3) (lv2 := [(0, .ref (bd 0)), (1, .int x), (2, .int w), (3, .int 0)]) C dX2_wins_25 rfl (by decide) rfl ?_
      refine g_iconst (v := 0) C dX2_wins_26 (by decide) ?_
      refine g_istore (lv2 := [(0, .ref (bd 0)), (1, .int x), (2, .int w), (3, .int 0), (4, .int 0)]) C dX2_wins_27 (by decide) rfl ?_
      refine g_lconst (v := 0) C dX2_wins_29 (by decide) ?_
      refine g_lstore (lv2 := [(0, .ref (bd 0)), (1, .int x), (2, .int w), (3, .int 0), (4, .int 0), (5, .long 0)]) C dX2_wins_30 (by decide) rfl ?_
      refine g_iconst (v := 0) C dX2_wins_32 (by decide) ?_
      refine g_istore (lv2 := [(0, .ref (bd 0)), (1, .int x), (2, .int w), (3, .int 0), (4, .int 0), (5, .long 0), (7, .int 0)]) C dX2_wins_33 (by decide) rfl ?_
      have lo : ∀ (fuel : Nat) (i : Nat) (c g : Int32) (a : Int64), i ≤ 12 → 12 < i + fuel → wnM M x i = (c, g, a) → G E K 0 0 (mW K bd M X) [(0, .ref (bd 0)), (1, .int x), (2, .int w), (3, .int c), (4, .int g), (5, .long a), (7, .int (nI i))] 35 [] := by
        intro fuel
        induction fuel with
        | zero =>
          intro i c g a hlo0 hlo1 hlo2
          omega
        | succ fuel ihlo =>
          intro i c g a hlo0 hlo1 hlo2
          refine g_iload C dX2_wins_35 rfl ?_
          refine g_bipush (v := 12) C dX2_wins_37 (by decide) ?_
          refine g_icmp_ge (tgt := 84) C dX2_wins_39 (by decide) (fun c39_3 => ?_) (fun c39_3 => ?_)
          · skip
            have ei : i = 12 := by have := nle (a := 12) c39_3 (by decide) (by omega); omega
            refine g_iload_n (i := 3) C dX2_wins_84 rfl rfl ?_
            refine g_iconst (v := 4) C dX2_wins_85 (by decide) ?_
            refine g_icmp_gt (tgt := 96) C dX2_wins_86 (by decide) (fun c86_4 => ?_) (fun c86_4 => ?_)
            · skip
              refine g_bipush (v := (-2)) C dX2_wins_96 (by decide) ?_
              exact hR _ _ _ _ () dX2_wins_98 (by subst ei; rw [mWins, hlo2, c9_1, cond_true, c19_2, cond_true, if_pos c86_4]) (rfl)
            · skip
              refine g_iload C dX2_wins_89 rfl ?_
              refine g_bipush (v := 14) C dX2_wins_91 (by decide) ?_
              refine g_icmp_le (tgt := 99) C dX2_wins_93 (by decide) (fun c93_5 => ?_) (fun c93_5 => ?_)
              · skip
                refine g_iload_n (i := 2) C dX2_wins_99 rfl rfl ?_
                refine g_if_ne (tgt := 113) C dX2_wins_100 (by decide) (fun c100_6 => ?_) (fun c100_6 => ?_)
                · skip
                  refine g_lload C dX2_wins_113 rfl ?_
                  refine g_lconst (v := 0) C dX2_wins_115 (by decide) ?_
                  refine g_lcmp_ge (tgt := 124) C dX2_wins_116 dX2_wins_117 (by decide) (fun c116_7 => ?_) (fun c116_7 => ?_)
                  · skip
                    refine g_iconst (v := 0) C dX2_wins_124 (by decide) ?_
                    exact hR _ _ _ _ () dX2_wins_125 (by subst ei; rw [mWins, hlo2, c9_1, cond_true, c19_2, cond_true, if_neg c86_4, if_pos c93_5, if_neg c100_6, if_pos c116_7]) (rfl)
                  · skip
                    refine g_iconst (v := 1) C dX2_wins_120 (by decide) ?_
                    refine g_goto (tgt := 125) C dX2_wins_121 (by decide) ?_
                    exact hR _ _ _ _ () dX2_wins_125 (by subst ei; rw [mWins, hlo2, c9_1, cond_true, c19_2, cond_true, if_neg c86_4, if_pos c93_5, if_neg c100_6, if_neg c116_7]) (rfl)
                · skip
                  refine g_lload C dX2_wins_103 rfl ?_
                  refine g_lconst (v := 0) C dX2_wins_105 (by decide) ?_
                  refine g_lcmp_le (tgt := 124) C dX2_wins_106 dX2_wins_107 (by decide) (fun c106_8 => ?_) (fun c106_8 => ?_)
                  · skip
                    refine g_iconst (v := 0) C dX2_wins_124 (by decide) ?_
                    exact hR _ _ _ _ () dX2_wins_125 (by subst ei; rw [mWins, hlo2, c9_1, cond_true, c19_2, cond_true, if_neg c86_4, if_pos c93_5, if_pos c100_6, if_pos c106_8]) (rfl)
                  · skip
                    refine g_goto (tgt := 120) C dX2_wins_110 (by decide) ?_
                    refine g_iconst (v := 1) C dX2_wins_120 (by decide) ?_
                    refine g_goto (tgt := 125) C dX2_wins_121 (by decide) ?_
                    exact hR _ _ _ _ () dX2_wins_125 (by subst ei; rw [mWins, hlo2, c9_1, cond_true, c19_2, cond_true, if_neg c86_4, if_pos c93_5, if_pos c100_6, if_neg c106_8]) (rfl)
              · skip
                refine g_bipush (v := (-2)) C dX2_wins_96 (by decide) ?_
                exact hR _ _ _ _ () dX2_wins_98 (by subst ei; rw [mWins, hlo2, c9_1, cond_true, c19_2, cond_true, if_neg c86_4, if_neg c93_5]) (rfl)
          · skip
            have ei : i < 12 := nlt (a := 12) c39_3 (by decide) (by omega)
            refine g_iload_n (i := 1) C dX2_wins_42 rfl rfl ?_
            refine g_iload C dX2_wins_43 rfl ?_
            refine g_ishr C dX2_wins_45 ?_
            refine g_iconst (v := 1) C dX2_wins_46 (by decide) ?_
            refine g_iand C dX2_wins_47 ?_
            refine g_eqi (sbz x (nI i)) ?_
            refine g_iconst (v := 1) C dX2_wins_48 (by decide) ?_
            refine g_bz1_ne (tgt := 78) C dX2_wins_49 (by decide) (fun c49_9 => ?_) (fun c49_9 => ?_)
            · skip
              refine g_iinc (v := nI (i + 1)) (lv2 := [(0, .ref (bd 0)), (1, .int x), (2, .int w), (3, .int c), (4, .int g), (5, .long a), (7, .int (nI (i + 1)))]) C dX2_wins_78 rfl (nI_inc i) (by decide) rfl ?_
              refine g_goto (tgt := 35) C dX2_wins_81 (by decide) ?_
              exact g_lvs [0, 1, 2, 3, 4, 5, 6] rfl (ihlo (i + 1) _ _ _ (by omega) (by omega) (by rw [wnM, c49_9, cond_false, hlo2]))
            · skip
              refine g_iinc (v := c + Int32.ofInt 1) (lv2 := [(0, .ref (bd 0)), (1, .int x), (2, .int w), (3, .int (c + Int32.ofInt 1)), (4, .int g), (5, .long a), (7, .int (nI i))]) C dX2_wins_52 rfl rfl (by decide) rfl ?_
              refine g_iload C dX2_wins_55 rfl ?_
              refine g_aload_n (i := 0) C dX2_wins_57 rfl rfl ?_
              refine g_get C dX2_wins_58 fl_X2_7 0 rfl rfl ?_
              refine g_iload C dX2_wins_61 rfl ?_
              refine g_iald C dX2_wins_63 1 rfl (vp_in_nI (by omega) (by decide)) ?_
              refine g_eqi (congrArg M.1 (nI_clamp (by omega))) ?_
              refine g_iadd C dX2_wins_64 ?_
              refine g_istore (lv2 := [(0, .ref (bd 0)), (1, .int x), (2, .int w), (3, .int (c + Int32.ofInt 1)), (4, .int (g + (M.1 i))), (5, .long a), (7, .int (nI i))]) C dX2_wins_65 (by decide) rfl ?_
              refine g_lload C dX2_wins_67 rfl ?_
              refine g_aload_n (i := 0) C dX2_wins_69 rfl rfl ?_
              refine g_iload C dX2_wins_70 rfl ?_
              refine g_callV (av := [.int (nI i)]) C dX2_wins_72 ln_X2_73 mf_X2_worthOf 0 rfl rfl (kX2_worthOf K bd M X (nI i) (isReg_nI (by omega)) (hd _ (by rw [nI_clamp (by omega)]; omega))) rfl rfl (Nat.le_of_ble_eq_true rfl) ⟨Nat.le_of_ble_eq_true rfl, Nat.le_of_ble_eq_true rfl⟩ ⟨Nat.zero_le _, Nat.zero_le _⟩ (fun _ => ?_)
              refine g_eql (congrArg (wO M) (nI_clamp (by omega))) ?_
              refine g_ladd C dX2_wins_75 ?_
              refine g_lstore (lv2 := [(0, .ref (bd 0)), (1, .int x), (2, .int w), (3, .int (c + Int32.ofInt 1)), (4, .int (g + (M.1 i))), (5, .long (a + (wO M i))), (7, .int (nI i))]) C dX2_wins_76 (by decide) rfl ?_
              refine g_iinc (v := nI (i + 1)) (lv2 := [(0, .ref (bd 0)), (1, .int x), (2, .int w), (3, .int (c + Int32.ofInt 1)), (4, .int (g + (M.1 i))), (5, .long (a + (wO M i))), (7, .int (nI (i + 1)))]) C dX2_wins_78 rfl (nI_inc i) (by decide) rfl ?_
              refine g_goto (tgt := 35) C dX2_wins_81 (by decide) ?_
              exact g_lvs [0, 1, 2, 3, 4, 5, 6] rfl (ihlo (i + 1) _ _ _ (by omega) (by omega) (by rw [wnM, c49_9, cond_true, hlo2]))
      exact g_lvs [0, 1, 2, 3, 4, 5, 6] rfl (lo 13 0 0 0 0 (by omega) (by omega) rfl)
    · skip
      refine g_iconst (v := (-1)) C dX2_wins_22 (by decide) ?_
      exact hR _ _ _ _ () dX2_wins_23 (by rw [mWins, c9_1, cond_true, c19_2, cond_false] <;> rfl) (rfl)
