theorem pl_nI (z j : Nat) : 13 * nI z + (nI j - 6) + 6 = nI (13 * z + j) := by
  rw [Int32.add_assoc, Int32.sub_add_cancel, show (13 : Int32) = nI 13 from rfl, pk_mul, nI_add]
theorem pl_n0 (z : Nat) : 13 * nI z + 0 + 6 = nI (13 * z + 6) := by
  rw [Int32.add_zero, show (13 : Int32) = nI 13 from rfl, show (6 : Int32) = nI 6 from rfl, pk_mul, nI_add]
theorem e_inc (i : Nat) : nI i - 6 + Int32.ofInt 1 = nI (i + 1) - 6 := by
  rw [nI_succ, show Int32.ofInt 1 = 1 from rfl, Int32.sub_eq_add_neg, Int32.sub_eq_add_neg, Int32.add_assoc, Int32.add_comm (-6) 1, ← Int32.add_assoc]
theorem e_dec (i : Nat) : nI i - 6 + Int32.ofInt (-1) = nI i - 7 := by
  rw [Int32.sub_eq_add_neg, Int32.sub_eq_add_neg, Int32.add_assoc]; rfl
theorem e_pred (i : Nat) : nI (i + 1) - 7 = nI i - 6 := by
  rw [nI_succ, Int32.sub_eq_add_neg, Int32.sub_eq_add_neg, Int32.add_assoc]; rfl
theorem e_int {i : Nat} {c : Int32} {k : Nat} (hi : i < 2 ^ 30) (hc : c.toInt = k) (hk : k < 2 ^ 20) : (nI i - c).toInt = (i : Int) - k := by
  rw [Int32.toInt_sub, nI_toInt (by omega), hc, Int.bmod_def]
  omega
theorem e_up {i : Nat} (h : ¬ (6 : Int32) < nI i - 6) (hi : i < 2 ^ 30) : i < 13 := by
  rw [Int32.lt_iff_toInt_lt, e_int (k := 6) hi rfl (by decide)] at h
  have e6 : (6 : Int32).toInt = 6 := rfl
  omega
theorem e_upx {i : Nat} (h : (6 : Int32) < nI i - 6) (hi : i < 2 ^ 30) : 13 ≤ i := by
  rw [Int32.lt_iff_toInt_lt, e_int (k := 6) hi rfl (by decide)] at h
  have e6 : (6 : Int32).toInt = 6 := rfl
  omega
theorem e_dnx {j : Nat} (h : nI j - 7 < -6) (hj : j < 2 ^ 30) : j = 0 := by
  rw [Int32.lt_iff_toInt_lt, e_int (k := 7) hj rfl (by decide)] at h
  have e6 : (-6 : Int32).toInt = -6 := rfl
  omega
theorem e_dn {j : Nat} (h : ¬ nI j - 7 < -6) (hj : j < 2 ^ 30) : ∃ i, j = i + 1 := by
  cases j with
  | zero => exact absurd (by decide) h
  | succ i => exact ⟨i, rfl⟩
theorem e_slot {e : Int32} (h : inL e.toInt64 (-6) 6 = true) : ∃ j : Nat, j < 13 ∧ e = nI j - 6 ∧ (e + 6).toNatClampNeg = j := by
  rw [inL_gen e (-6) 6 (a := -6) (b := 6) rfl rfl] at h
  obtain ⟨j, hj, ej⟩ := vp_in_of (isEx_in (e := e) h) (by decide)
  refine ⟨j, hj, ?_, by rw [ej, nI_clamp (by omega)]⟩
  rw [← ej, Int32.add_sub_cancel]
theorem sm_nI {z : Int32} (h : isSm z = true) : z = nI z.toNatClampNeg := by
  obtain ⟨j, hj, e⟩ := vp_in_of (isSm_in h) (by decide)
  rw [e, nI_clamp (by omega)]
theorem sm_lt {z : Int32} (h : isSm z = true) : z.toNatClampNeg < 8 := vp_lt (isSm_in h)
abbrev abM (M : MSt) : Nat → Int64 := M.2.2.2.2.1
abbrev blM (M : MSt) : Nat → Int32 := M.2.2.2.2.2.1
abbrev puM (M : MSt) : Int64 := M.2.2.2.2.2.2.2.2.1
abbrev pdM (M : MSt) : Int32 := M.2.2.2.2.2.2.2.2.2
abbrev HB (M : MSt) : Prop := ∀ i : Nat, i < 130 → ∃ b : Nat, b ≤ 20 ∧ blM M i = nI b
abbrev mAB (M : MSt) (a : Nat → Int64) (b : Nat → Int32) : MSt := (M.1, M.2.1, M.2.2.1, M.2.2.2.1, a, b, M.2.2.2.2.2.2.1, M.2.2.2.2.2.2.2.1, M.2.2.2.2.2.2.2.2.1, M.2.2.2.2.2.2.2.2.2)
def plM (a : Int64) (k : Nat) : Bool := bif inL (rdM k a).1 (-1000000000) 1000000000 then (if 20 < nI (rdM k a).2 then false else true) else false
def mPl (M : MSt) (a : Int64) (k : Nat) : MSt := (M.1, M.2.1, M.2.2.1, M.2.2.2.1, M.2.2.2.2.1, M.2.2.2.2.2.1, M.2.2.2.2.2.2.1, M.2.2.2.2.2.2.2.1, (rdM k a).1, nI (rdM k a).2)
def tmM (a : Nat → Int64) (z : Nat) : Nat → Int32
  | 0 => 0
  | i + 1 => tmM a z i + bz (decide (¬ a (13 * z + i) = 0))
def cpN {α : Type} (a : Nat → α) (z : Nat) (d : α) (n : Nat) : Nat → α := fun i => if 13 * z ≤ i ∧ i < 13 * z + n then d else a i
def cpF {α : Type} (a : Nat → α) (z f n : Nat) : Nat → α := fun i => if 13 * z ≤ i ∧ i < 13 * z + n then a (13 * f + (i - 13 * z)) else a i
theorem cpN_0 {α : Type} {a : Nat → α} {z : Nat} {d : α} : a = cpN a z d 0 := by
  funext i; unfold cpN; rw [if_neg (by omega)]
theorem cpF_0 {α : Type} {a : Nat → α} {z f : Nat} : a = cpF a z f 0 := by
  funext i; unfold cpF; rw [if_neg (by omega)]
theorem cpN_sL {a : Nat → Int64} {z n : Nat} {d : Int64} : vp_updL (cpN a z d n) (13 * z + n) d = cpN a z d (n + 1) := by
  funext i
  unfold vp_updL cpN
  by_cases h : i = 13 * z + n
  · rw [if_pos h, if_pos (by omega)]
  · rw [if_neg h]
    by_cases h2 : 13 * z ≤ i ∧ i < 13 * z + n
    · rw [if_pos h2, if_pos (by omega)]
    · rw [if_neg h2, if_neg (by omega)]
theorem cpN_sI {a : Nat → Int32} {z n : Nat} {d : Int32} : upd (cpN a z d n) (13 * z + n) d = cpN a z d (n + 1) := by
  funext i
  unfold upd cpN
  by_cases h : i = 13 * z + n
  · rw [if_pos h, if_pos (by omega)]
  · rw [if_neg h]
    by_cases h2 : 13 * z ≤ i ∧ i < 13 * z + n
    · rw [if_pos h2, if_pos (by omega)]
    · rw [if_neg h2, if_neg (by omega)]
theorem cpF_rd {α : Type} {a : Nat → α} {z f n m : Nat} (hn : n ≤ 13) (hm : m < 13) (h : f ≠ z) : cpF a z f n (13 * f + m) = a (13 * f + m) := by
  unfold cpF; rw [if_neg (by omega)]
theorem cpF_sL {a : Nat → Int64} {z f n : Nat} (hn : n < 13) (h : f ≠ z) : vp_updL (cpF a z f n) (13 * z + n) (cpF a z f n (13 * f + n)) = cpF a z f (n + 1) := by
  rw [cpF_rd (by omega) hn h]
  funext i
  unfold vp_updL cpF
  by_cases h1 : i = 13 * z + n
  · rw [if_pos h1, if_pos (by omega), h1]; congr 1; omega
  · rw [if_neg h1]
    by_cases h2 : 13 * z ≤ i ∧ i < 13 * z + n
    · rw [if_pos h2, if_pos (by omega)]
    · rw [if_neg h2, if_neg (by omega)]
theorem cpF_sI {a : Nat → Int32} {z f n : Nat} (hn : n < 13) (h : f ≠ z) : upd (cpF a z f n) (13 * z + n) (cpF a z f n (13 * f + n)) = cpF a z f (n + 1) := by
  rw [cpF_rd (by omega) hn h]
  funext i
  unfold upd cpF
  by_cases h1 : i = 13 * z + n
  · rw [if_pos h1, if_pos (by omega), h1]; congr 1; omega
  · rw [if_neg h1]
    by_cases h2 : 13 * z ≤ i ∧ i < 13 * z + n
    · rw [if_pos h2, if_pos (by omega)]
    · rw [if_neg h2, if_neg (by omega)]
def mCpN (M : MSt) (z : Nat) : MSt := mAB M (cpN (abM M) z 0 13) (cpN (blM M) z 0 13)
def mCpF (M : MSt) (z f : Nat) : MSt := mAB M (cpF (abM M) z f 13) (cpF (blM M) z f 13)
def grM (a : Nat → Int64) (z : Nat) : Nat → Nat
  | 0 => 0
  | j + 1 => if a (13 * z + j) = 0 then grM a z j else j + 1
def mx (b k : Nat) : Nat := if nI b ≤ nI k then k else b
def putV (x : Int64) (b : Nat) (a : Int64) (k : Nat) : Int64 := shlL x (nI (mx b k) - nI b) + shlL a (nI (mx b k) - nI k)
def mPutJ (M : MSt) (i : Nat) (a : Int64) (k : Nat) : Bool × MSt := bif plM (putV (abM M i) (blM M i).toNatClampNeg a k) (mx (blM M i).toNatClampNeg k) then (true, mAB (mPl M (putV (abM M i) (blM M i).toNatClampNeg a k) (mx (blM M i).toNatClampNeg k)) (vp_updL (abM M) i (rdM (mx (blM M i).toNatClampNeg k) (putV (abM M i) (blM M i).toNatClampNeg a k)).1) (upd (blM M) i (if (rdM (mx (blM M i).toNatClampNeg k) (putV (abM M i) (blM M i).toNatClampNeg a k)).1 = 0 then 0 else nI (rdM (mx (blM M i).toNatClampNeg k) (putV (abM M i) (blM M i).toNatClampNeg a k)).2))) else (false, mPl M (putV (abM M i) (blM M i).toNatClampNeg a k) (mx (blM M i).toNatClampNeg k))
def mPut (M : MSt) (z : Nat) (e : Int32) (a : Int64) (k : Nat) : Bool × MSt := bif inL e.toInt64 (-6) 6 then mPutJ M (13 * z + (e + 6).toNatClampNeg) a k else (false, M)
def mMul (M : MSt) (z : Nat) (e : Int32) (a : Int64) (k : Nat) (b : Int64) (l : Nat) (sn : Int64) : Bool × MSt := bif inL e.toInt64 (-6) 6 then bif plM (a * b) (k + l) then mPut (mPl M (a * b) (k + l)) z e (sn * (rdM (k + l) (a * b)).1) (rdM (k + l) (a * b)).2 else (false, mPl M (a * b) (k + l)) else (false, M)
theorem rd_le : ∀ {k : Nat} {a : Int64}, (rdM k a).2 ≤ k
  | 0, _ => Nat.le_refl _
  | k + 1, a => by
    rw [rdM]
    by_cases h : a - a / 2 * 2 = 0
    · rw [if_pos h]; exact Nat.le_succ_of_le rd_le
    · rw [if_neg h]; exact Nat.le_refl _
theorem mx_le {b k n : Nat} (h1 : b ≤ n) (h2 : k ≤ n) : mx b k ≤ n := by
  unfold mx; split <;> assumption
set_option maxHeartbeats 600000 in
set_option maxRecDepth 100000 in
theorem kX2_plain (K : KT) (bd : Nat → Nat) (M : MSt) (X : va_W) (a : Int64) (k : Nat) (hk : k < 2 ^ 31) : ∀ lau : Launch, Con lau yX2_plain cX2_plain 4 (some .boolean) 1 25 K (mW K bd M X) (fun _ : Unit => mW K bd (mPl M a k) X) [.ref (bd 0), .long a, .int (nI k)] (some (.int (bz (plM a k)))) := by
  refine conZ (by decide) (Nat.le_of_ble_eq_true rfl) (fun E C hR => ?_)
  show G E K 0 0 (mW K bd M X) [(0, .ref (bd 0)), (1, .long a), (3, .int (nI k))] 0 []
  refine g_aload_n (i := 0) C dX2_plain_0 rfl rfl ?_
  refine g_lload_n (i := 1) C dX2_plain_1 rfl rfl ?_
  refine g_put (Wd2 := mW K bd (M.1, M.2.1, M.2.2.1, M.2.2.2.1, M.2.2.2.2.1, M.2.2.2.2.2.1, M.2.2.2.2.2.2.1, M.2.2.2.2.2.2.2.1, a, M.2.2.2.2.2.2.2.2.2) X) C dX2_plain_2 fp_X2_96 0 rfl rfl rfl (Nat.le_of_ble_eq_true rfl) rfl ?_
  refine g_aload_n (i := 0) C dX2_plain_5 rfl rfl ?_
  refine g_iload_n (i := 3) C dX2_plain_6 rfl rfl ?_
  refine g_put (Wd2 := mW K bd (M.1, M.2.1, M.2.2.1, M.2.2.2.1, M.2.2.2.2.1, M.2.2.2.2.2.1, M.2.2.2.2.2.2.1, M.2.2.2.2.2.2.2.1, a, nI k) X) C dX2_plain_7 fp_X2_100 0 rfl rfl rfl (Nat.le_of_ble_eq_true rfl) rfl ?_
  have lo : ∀ (fuel : Nat) (j : Nat) (u : Int64), j ≤ k → j < fuel → rdM j u = rdM k a → G E K 0 0 (mW K bd (M.1, M.2.1, M.2.2.1, M.2.2.2.1, M.2.2.2.2.1, M.2.2.2.2.2.1, M.2.2.2.2.2.2.1, M.2.2.2.2.2.2.2.1, u, nI j) X) [(0, .ref (bd 0)), (1, .long a), (3, .int (nI k))] 10 [] := by
    intro fuel
    induction fuel with
    | zero =>
      intro j u hlo0 hlo1 hlo2
      omega
    | succ fuel ihlo =>
      intro j u hlo0 hlo1 hlo2
      refine g_aload_n (i := 0) C dX2_plain_10 rfl rfl ?_
      refine g_get C dX2_plain_11 fl_X2_100 0 rfl rfl ?_
      refine g_if_le (tgt := 55) C dX2_plain_14 (by decide) (fun c14_1 => ?_) (fun c14_1 => ?_)
      · skip
        have ej : j = 0 := nz0 c14_1 (by omega)
        subst ej
        have er : rdM k a = (u, 0) := hlo2.symm
        refine g_aload_n (i := 0) C dX2_plain_55 rfl rfl ?_
        refine g_get C dX2_plain_56 fl_X2_96 0 rfl rfl ?_
        refine g_ldc2 (v := (-1000000000)) C dX2_plain_59 kc_X2_58 ?_
        refine g_ldc2 (v := 1000000000) C dX2_plain_62 kc_X2_60 ?_
        refine g_callS (av := [.long u, .long (-1000000000), .long 1000000000]) C dX2_plain_65 ln_X2_32 mf_X2_in (kX2_in K (mW K bd (M.1, M.2.1, M.2.2.1, M.2.2.2.1, M.2.2.2.2.1, M.2.2.2.2.2.1, M.2.2.2.2.2.2.1, M.2.2.2.2.2.2.2.1, u, nI 0) X) u (-1000000000) 1000000000) rfl rfl (Nat.le_of_ble_eq_true rfl) ⟨Nat.le_of_ble_eq_true rfl, Nat.le_of_ble_eq_true rfl⟩ ⟨Nat.zero_le _, Nat.zero_le _⟩ (fun _ => ?_)
        refine g_bz_eq (tgt := 84) C dX2_plain_68 (by decide) (fun c68_2 => ?_) (fun c68_2 => ?_)
        · skip
          refine g_iconst (v := 0) C dX2_plain_84 (by decide) ?_
          exact hR _ _ _ _ () dX2_plain_85 (by rw [plM, er, c68_2, cond_false] <;> rfl) (by rw [mPl, er])
        · skip
          refine g_aload_n (i := 0) C dX2_plain_71 rfl rfl ?_
          refine g_get C dX2_plain_72 fl_X2_100 0 rfl rfl ?_
          refine g_bipush (v := 20) C dX2_plain_75 (by decide) ?_
          refine g_icmp_gt (tgt := 84) C dX2_plain_77 (by decide) (fun c77_3 => ?_) (fun c77_3 => ?_)
          · skip
            refine g_iconst (v := 0) C dX2_plain_84 (by decide) ?_
            exact hR _ _ _ _ () dX2_plain_85 (by rw [plM, er, c68_2, cond_true, if_pos c77_3] <;> rfl) (by rw [mPl, er])
          · skip
            refine g_iconst (v := 1) C dX2_plain_80 (by decide) ?_
            refine g_goto (tgt := 85) C dX2_plain_81 (by decide) ?_
            exact hR _ _ _ _ () dX2_plain_85 (by rw [plM, er, c68_2, cond_true, if_neg c77_3] <;> rfl) (by rw [mPl, er])
      · skip
        obtain ⟨j2, rfl⟩ := nz c14_1
        refine g_aload_n (i := 0) C dX2_plain_17 rfl rfl ?_
        refine g_get C dX2_plain_18 fl_X2_96 0 rfl rfl ?_
        refine g_ldc2 (v := 2) C dX2_plain_21 kc_X2_38 ?_
        refine g_lrem C dX2_plain_24 (by decide) ?_
        refine g_lconst (v := 0) C dX2_plain_25 (by decide) ?_
        refine g_lcmp_ne (tgt := 55) C dX2_plain_26 dX2_plain_27 (by decide) (fun c26_4 => ?_) (fun c26_4 => ?_)
        · skip
          have er : rdM k a = (u, j2 + 1) := by rw [← hlo2, rdM, if_neg c26_4]
          refine g_aload_n (i := 0) C dX2_plain_55 rfl rfl ?_
          refine g_get C dX2_plain_56 fl_X2_96 0 rfl rfl ?_
          refine g_ldc2 (v := (-1000000000)) C dX2_plain_59 kc_X2_58 ?_
          refine g_ldc2 (v := 1000000000) C dX2_plain_62 kc_X2_60 ?_
          refine g_callS (av := [.long u, .long (-1000000000), .long 1000000000]) C dX2_plain_65 ln_X2_32 mf_X2_in (kX2_in K (mW K bd (M.1, M.2.1, M.2.2.1, M.2.2.2.1, M.2.2.2.2.1, M.2.2.2.2.2.1, M.2.2.2.2.2.2.1, M.2.2.2.2.2.2.2.1, u, nI (j2 + 1)) X) u (-1000000000) 1000000000) rfl rfl (Nat.le_of_ble_eq_true rfl) ⟨Nat.le_of_ble_eq_true rfl, Nat.le_of_ble_eq_true rfl⟩ ⟨Nat.zero_le _, Nat.zero_le _⟩ (fun _ => ?_)
          refine g_bz_eq (tgt := 84) C dX2_plain_68 (by decide) (fun c68_5 => ?_) (fun c68_5 => ?_)
          · skip
            refine g_iconst (v := 0) C dX2_plain_84 (by decide) ?_
            exact hR _ _ _ _ () dX2_plain_85 (by rw [plM, er, c68_5, cond_false] <;> rfl) (by rw [mPl, er])
          · skip
            refine g_aload_n (i := 0) C dX2_plain_71 rfl rfl ?_
            refine g_get C dX2_plain_72 fl_X2_100 0 rfl rfl ?_
            refine g_bipush (v := 20) C dX2_plain_75 (by decide) ?_
            refine g_icmp_gt (tgt := 84) C dX2_plain_77 (by decide) (fun c77_6 => ?_) (fun c77_6 => ?_)
            · skip
              refine g_iconst (v := 0) C dX2_plain_84 (by decide) ?_
              exact hR _ _ _ _ () dX2_plain_85 (by rw [plM, er, c68_5, cond_true, if_pos c77_6] <;> rfl) (by rw [mPl, er])
            · skip
              refine g_iconst (v := 1) C dX2_plain_80 (by decide) ?_
              refine g_goto (tgt := 85) C dX2_plain_81 (by decide) ?_
              exact hR _ _ _ _ () dX2_plain_85 (by rw [plM, er, c68_5, cond_true, if_neg c77_6] <;> rfl) (by rw [mPl, er])
        · skip
          refine g_aload_n (i := 0) C dX2_plain_30 rfl rfl ?_
          refine g_dup C dX2_plain_31 rfl ?_
          refine g_get C dX2_plain_32 fl_X2_96 0 rfl rfl ?_
          refine g_ldc2 (v := 2) C dX2_plain_35 kc_X2_38 ?_
          refine g_ldiv C dX2_plain_38 (by decide) ?_
          refine g_put (Wd2 := mW K bd (M.1, M.2.1, M.2.2.1, M.2.2.2.1, M.2.2.2.2.1, M.2.2.2.2.2.1, M.2.2.2.2.2.2.1, M.2.2.2.2.2.2.2.1, u / 2, nI (j2 + 1)) X) C dX2_plain_39 fp_X2_96 0 rfl rfl rfl (Nat.le_of_ble_eq_true rfl) rfl ?_
          refine g_aload_n (i := 0) C dX2_plain_42 rfl rfl ?_
          refine g_dup C dX2_plain_43 rfl ?_
          refine g_get C dX2_plain_44 fl_X2_100 0 rfl rfl ?_
          refine g_iconst (v := 1) C dX2_plain_47 (by decide) ?_
          refine g_isub C dX2_plain_48 ?_
          refine g_eqi (nI_pred j2) ?_
          refine g_put (Wd2 := mW K bd (M.1, M.2.1, M.2.2.1, M.2.2.2.1, M.2.2.2.2.1, M.2.2.2.2.2.1, M.2.2.2.2.2.2.1, M.2.2.2.2.2.2.2.1, u / 2, nI j2) X) C dX2_plain_49 fp_X2_100 0 rfl rfl rfl (Nat.le_of_ble_eq_true rfl) rfl ?_
          refine g_goto (tgt := 10) C dX2_plain_52 (by decide) ?_
          exact g_lvs [0, 1, 2] rfl (ihlo j2 _ (by omega) (by omega) (by rw [← hlo2, rdM, if_pos c26_4]))
  exact g_lvs [0, 1, 2] rfl (lo (k + 1) k a (Nat.le_refl _) (by omega) rfl)

set_option maxHeartbeats 600000 in
set_option maxRecDepth 100000 in
theorem kX2_terms (K : KT) (bd : Nat → Nat) (M : MSt) (X : va_W) (z : Nat) (hz : z < 10) : ∀ lau : Launch, Con lau yX2_terms cX2_terms 4 (some .int) 1 21 K (mW K bd M X) (fun _ : Unit => mW K bd M X) [.ref (bd 0), .int (nI z)] (some (.int (tmM (abM M) z 13))) := by
  refine conI (by decide) (Nat.le_of_ble_eq_true rfl) (fun E C hR => ?_)
  show G E K 0 0 (mW K bd M X) [(0, .ref (bd 0)), (1, .int (nI z))] 0 []
  refine g_iconst (v := 0) C dX2_terms_0 (by decide) ?_
  refine g_istore_n (i := 2) (lv2 := [(0, .ref (bd 0)), (1, .int (nI z)), (2, .int 0)]) C dX2_terms_1 rfl (by decide) rfl ?_
  refine g_bipush (v := (-6)) C dX2_terms_2 (by decide) ?_
  refine g_istore_n (i := 3) (lv2 := [(0, .ref (bd 0)), (1, .int (nI z)), (2, .int 0), (3, .int (-6))]) C dX2_terms_4 rfl (by decide) rfl ?_
  have lo : ∀ (fuel : Nat) (i : Nat) (a : Int32), i ≤ 13 → 13 < i + fuel → a = tmM (abM M) z i → G E K 0 0 (mW K bd M X) [(0, .ref (bd 0)), (1, .int (nI z)), (2, .int a), (3, .int ((nI i) - 6))] 5 [] := by
    intro fuel
    induction fuel with
    | zero =>
      intro i a hlo0 hlo1 hlo2
      omega
    | succ fuel ihlo =>
      intro i a hlo0 hlo1 hlo2
      refine g_iload_n (i := 3) C dX2_terms_5 rfl rfl ?_
      refine g_bipush (v := 6) C dX2_terms_6 (by decide) ?_
      refine g_icmp_gt (tgt := 40) C dX2_terms_8 (by decide) (fun c8_1 => ?_) (fun c8_1 => ?_)
      · skip
        have ei : i = 13 := by have := e_upx c8_1 (by omega); omega
        refine g_iload_n (i := 2) C dX2_terms_40 rfl rfl ?_
        exact hR _ _ _ _ () dX2_terms_41 (by rw [hlo2, ei]) (rfl)
      · skip
        have ei : i < 13 := e_up c8_1 (by omega)
        refine g_iload_n (i := 2) C dX2_terms_11 rfl rfl ?_
        refine g_aload_n (i := 0) C dX2_terms_12 rfl rfl ?_
        refine g_get C dX2_terms_13 fl_X2_23 0 rfl rfl ?_
        refine g_iload_n (i := 1) C dX2_terms_16 rfl rfl ?_
        refine g_iload_n (i := 3) C dX2_terms_17 rfl rfl ?_
        refine g_callS (av := [.int (nI z), .int ((nI i) - 6)]) C dX2_terms_18 ln_X2_105 mf_X2_place (kX2_place K (mW K bd M X) (nI z) ((nI i) - 6)) rfl rfl (Nat.le_of_ble_eq_true rfl) ⟨Nat.le_of_ble_eq_true rfl, Nat.le_of_ble_eq_true rfl⟩ ⟨Nat.zero_le _, Nat.zero_le _⟩ (fun _ => ?_)
        refine g_eqi (pl_nI z i) ?_
        refine g_lald C dX2_terms_21 3 rfl (vp_in_nI (by omega) (by decide)) ?_
        refine g_eql (congrArg M.2.2.2.2.1 (nI_clamp (by omega))) ?_
        refine g_lconst (v := 0) C dX2_terms_22 (by decide) ?_
        refine g_dia_lcmp_eq (tgt := 31) C dX2_terms_23 dX2_terms_24 dX2_terms_27 dX2_terms_28 dX2_terms_31 (by decide) (by decide) trivial ?_
        refine g_iadd C dX2_terms_32 ?_
        refine g_istore_n (i := 2) (lv2 := [(0, .ref (bd 0)), (1, .int (nI z)), (2, .int (a + (bz (decide (¬ (M.2.2.2.2.1 (13 * z + i)) = 0))))), (3, .int ((nI i) - 6))]) C dX2_terms_33 rfl (by decide) rfl ?_
        refine g_iinc (v := nI (i + 1) - 6) (lv2 := [(0, .ref (bd 0)), (1, .int (nI z)), (2, .int (a + (bz (decide (¬ (M.2.2.2.2.1 (13 * z + i)) = 0))))), (3, .int (nI (i + 1) - 6))]) C dX2_terms_34 rfl (e_inc i) (by decide) rfl ?_
        refine g_goto (tgt := 5) C dX2_terms_37 (by decide) ?_
        exact g_lvs [0, 1, 2, 3] rfl (ihlo (i + 1) _ (by omega) (by omega) (by rw [tmM, hlo2]))
  exact g_lvs [0, 1, 2, 3] rfl (lo 14 0 0 (by omega) (by omega) rfl)

set_option maxHeartbeats 600000 in
set_option maxRecDepth 100000 in
theorem kX2_copiesN (K : KT) (bd : Nat → Nat) (M : MSt) (X : va_W) (z : Nat)  (hz : z < 10) : ∀ lau : Launch, Con lau yX2_copies cX2_copies 4 none 1 21 K (mW K bd M X) (fun _ : Unit => mW K bd (mCpN M z) X) [.ref (bd 0), .int (nI z), .int (-1)] none := by
  refine conV (by decide) (Nat.le_of_ble_eq_true rfl) (fun E C hR => ?_)
  show G E K 0 0 (mW K bd M X) [(0, .ref (bd 0)), (1, .int (nI z)), (2, .int (-1))] 0 []
  refine g_bipush (v := (-6)) C dX2_copies_0 (by decide) ?_
  refine g_istore_n (i := 3) (lv2 := [(0, .ref (bd 0)), (1, .int (nI z)), (2, .int (-1)), (3, .int (-6))]) C dX2_copies_2 rfl (by decide) rfl ?_
  have lo : ∀ (fuel : Nat) (i : Nat) (p : Nat → Int64) (q : Nat → Int32), i ≤ 13 → 13 < i + fuel → p = cpN (abM M) z 0 i → q = cpN (blM M) z 0 i → G E K 0 0 (mW K bd (M.1, M.2.1, M.2.2.1, M.2.2.2.1, p, q, M.2.2.2.2.2.2.1, M.2.2.2.2.2.2.2.1, M.2.2.2.2.2.2.2.2.1, M.2.2.2.2.2.2.2.2.2) X) [(0, .ref (bd 0)), (1, .int (nI z)), (2, .int (-1)), (3, .int ((nI i) - 6))] 3 [] := by
    intro fuel
    induction fuel with
    | zero =>
      intro i p q hlo0 hlo1 hlo2 hlo3
      omega
    | succ fuel ihlo =>
      intro i p q hlo0 hlo1 hlo2 hlo3
      refine g_iload_n (i := 3) C dX2_copies_3 rfl rfl ?_
      refine g_bipush (v := 6) C dX2_copies_4 (by decide) ?_
      refine g_icmp_gt (tgt := 71) C dX2_copies_6 (by decide) (fun c6_1 => ?_) (fun c6_1 => ?_)
      · skip
        have ei : i = 13 := by have := e_upx c6_1 (by omega); omega
        exact hR _ _ _ () dX2_copies_71 (by rw [hlo2, hlo3, ei] <;> rfl)
      · skip
        have ei : i < 13 := e_up c6_1 (by omega)
        refine g_aload_n (i := 0) C dX2_copies_9 rfl rfl ?_
        refine g_get C dX2_copies_10 fl_X2_23 0 rfl rfl ?_
        refine g_iload_n (i := 1) C dX2_copies_13 rfl rfl ?_
        refine g_iload_n (i := 3) C dX2_copies_14 rfl rfl ?_
        refine g_callS (av := [.int (nI z), .int ((nI i) - 6)]) C dX2_copies_15 ln_X2_105 mf_X2_place (kX2_place K (mW K bd (M.1, M.2.1, M.2.2.1, M.2.2.2.1, p, q, M.2.2.2.2.2.2.1, M.2.2.2.2.2.2.2.1, M.2.2.2.2.2.2.2.2.1, M.2.2.2.2.2.2.2.2.2) X) (nI z) ((nI i) - 6)) rfl rfl (Nat.le_of_ble_eq_true rfl) ⟨Nat.le_of_ble_eq_true rfl, Nat.le_of_ble_eq_true rfl⟩ ⟨Nat.zero_le _, Nat.zero_le _⟩ (fun _ => ?_)
        refine g_eqi (pl_nI z i) ?_
        refine g_iload_n (i := 2) C dX2_copies_18 rfl rfl ?_
        refine g_if_ge (tgt := 26) C dX2_copies_19 (by decide) (fun q => absurd q (by decide)) (fun _ => ?_)
        refine g_lconst (v := 0) C dX2_copies_22 (by decide) ?_
        refine g_goto (tgt := 36) C dX2_copies_23 (by decide) ?_
        refine g_last (Wd2 := mW K bd (M.1, M.2.1, M.2.2.1, M.2.2.2.1, vp_updL p (nI (13 * z + i)).toNatClampNeg 0, q, M.2.2.2.2.2.2.1, M.2.2.2.2.2.2.2.1, M.2.2.2.2.2.2.2.2.1, M.2.2.2.2.2.2.2.2.2) X) C dX2_copies_36 3 rfl (vp_in_nI (by omega) (by decide)) rfl ?_
        refine g_aload_n (i := 0) C dX2_copies_37 rfl rfl ?_
        refine g_get C dX2_copies_38 fl_X2_27 0 rfl rfl ?_
        refine g_iload_n (i := 1) C dX2_copies_41 rfl rfl ?_
        refine g_iload_n (i := 3) C dX2_copies_42 rfl rfl ?_
        refine g_callS (av := [.int (nI z), .int ((nI i) - 6)]) C dX2_copies_43 ln_X2_105 mf_X2_place (kX2_place K (mW K bd (M.1, M.2.1, M.2.2.1, M.2.2.2.1, vp_updL p (nI (13 * z + i)).toNatClampNeg 0, q, M.2.2.2.2.2.2.1, M.2.2.2.2.2.2.2.1, M.2.2.2.2.2.2.2.2.1, M.2.2.2.2.2.2.2.2.2) X) (nI z) ((nI i) - 6)) rfl rfl (Nat.le_of_ble_eq_true rfl) ⟨Nat.le_of_ble_eq_true rfl, Nat.le_of_ble_eq_true rfl⟩ ⟨Nat.zero_le _, Nat.zero_le _⟩ (fun _ => ?_)
        refine g_eqi (pl_nI z i) ?_
        refine g_iload_n (i := 2) C dX2_copies_46 rfl rfl ?_
        refine g_if_ge (tgt := 54) C dX2_copies_47 (by decide) (fun q => absurd q (by decide)) (fun _ => ?_)
        refine g_iconst (v := 0) C dX2_copies_50 (by decide) ?_
        refine g_goto (tgt := 64) C dX2_copies_51 (by decide) ?_
        refine g_iast (Wd2 := mW K bd (M.1, M.2.1, M.2.2.1, M.2.2.2.1, vp_updL p (nI (13 * z + i)).toNatClampNeg 0, upd q (nI (13 * z + i)).toNatClampNeg 0, M.2.2.2.2.2.2.1, M.2.2.2.2.2.2.2.1, M.2.2.2.2.2.2.2.2.1, M.2.2.2.2.2.2.2.2.2) X) C dX2_copies_64 4 rfl (vp_in_nI (by omega) (by decide)) rfl ?_
        refine g_iinc (v := nI (i + 1) - 6) (lv2 := [(0, .ref (bd 0)), (1, .int (nI z)), (2, .int (-1)), (3, .int (nI (i + 1) - 6))]) C dX2_copies_65 rfl (e_inc i) (by decide) rfl ?_
        refine g_goto (tgt := 3) C dX2_copies_68 (by decide) ?_
        exact g_lvs [0, 1, 2, 3] rfl (ihlo (i + 1) _ _ (by omega) (by omega) (by rw [nI_clamp (by omega), hlo2]; exact cpN_sL) (by rw [nI_clamp (by omega), hlo3]; exact cpN_sI))
  exact g_lvs [0, 1, 2, 3] rfl (lo 14 0 _ _ (by omega) (by omega) cpN_0 cpN_0)

set_option maxHeartbeats 600000 in
set_option maxRecDepth 100000 in
theorem kX2_copiesF (K : KT) (bd : Nat → Nat) (M : MSt) (X : va_W) (z : Nat) (f : Nat) (hz : z < 10) (hf : f < 10) (hne : f ≠ z) : ∀ lau : Launch, Con lau yX2_copies cX2_copies 4 none 1 21 K (mW K bd M X) (fun _ : Unit => mW K bd (mCpF M z f) X) [.ref (bd 0), .int (nI z), .int (nI f)] none := by
  refine conV (by decide) (Nat.le_of_ble_eq_true rfl) (fun E C hR => ?_)
  show G E K 0 0 (mW K bd M X) [(0, .ref (bd 0)), (1, .int (nI z)), (2, .int (nI f))] 0 []
  refine g_bipush (v := (-6)) C dX2_copies_0 (by decide) ?_
  refine g_istore_n (i := 3) (lv2 := [(0, .ref (bd 0)), (1, .int (nI z)), (2, .int (nI f)), (3, .int (-6))]) C dX2_copies_2 rfl (by decide) rfl ?_
  have lo : ∀ (fuel : Nat) (i : Nat) (p : Nat → Int64) (q : Nat → Int32), i ≤ 13 → 13 < i + fuel → p = cpF (abM M) z f i → q = cpF (blM M) z f i → G E K 0 0 (mW K bd (M.1, M.2.1, M.2.2.1, M.2.2.2.1, p, q, M.2.2.2.2.2.2.1, M.2.2.2.2.2.2.2.1, M.2.2.2.2.2.2.2.2.1, M.2.2.2.2.2.2.2.2.2) X) [(0, .ref (bd 0)), (1, .int (nI z)), (2, .int (nI f)), (3, .int ((nI i) - 6))] 3 [] := by
    intro fuel
    induction fuel with
    | zero =>
      intro i p q hlo0 hlo1 hlo2 hlo3
      omega
    | succ fuel ihlo =>
      intro i p q hlo0 hlo1 hlo2 hlo3
      refine g_iload_n (i := 3) C dX2_copies_3 rfl rfl ?_
      refine g_bipush (v := 6) C dX2_copies_4 (by decide) ?_
      refine g_icmp_gt (tgt := 71) C dX2_copies_6 (by decide) (fun c6_1 => ?_) (fun c6_1 => ?_)
      · skip
        have ei : i = 13 := by have := e_upx c6_1 (by omega); omega
        exact hR _ _ _ () dX2_copies_71 (by rw [hlo2, hlo3, ei] <;> rfl)
      · skip
        have ei : i < 13 := e_up c6_1 (by omega)
        refine g_aload_n (i := 0) C dX2_copies_9 rfl rfl ?_
        refine g_get C dX2_copies_10 fl_X2_23 0 rfl rfl ?_
        refine g_iload_n (i := 1) C dX2_copies_13 rfl rfl ?_
        refine g_iload_n (i := 3) C dX2_copies_14 rfl rfl ?_
        refine g_callS (av := [.int (nI z), .int ((nI i) - 6)]) C dX2_copies_15 ln_X2_105 mf_X2_place (kX2_place K (mW K bd (M.1, M.2.1, M.2.2.1, M.2.2.2.1, p, q, M.2.2.2.2.2.2.1, M.2.2.2.2.2.2.2.1, M.2.2.2.2.2.2.2.2.1, M.2.2.2.2.2.2.2.2.2) X) (nI z) ((nI i) - 6)) rfl rfl (Nat.le_of_ble_eq_true rfl) ⟨Nat.le_of_ble_eq_true rfl, Nat.le_of_ble_eq_true rfl⟩ ⟨Nat.zero_le _, Nat.zero_le _⟩ (fun _ => ?_)
        refine g_eqi (pl_nI z i) ?_
        refine g_iload_n (i := 2) C dX2_copies_18 rfl rfl ?_
        refine g_if_ge (tgt := 26) C dX2_copies_19 (by decide) (fun c19_2 => ?_) (fun c19_2 => absurd (nI_pos (by omega)) (fun q => c19_2 (Int32.not_lt.mp q)))
        refine g_aload_n (i := 0) C dX2_copies_26 rfl rfl ?_
        refine g_get C dX2_copies_27 fl_X2_23 0 rfl rfl ?_
        refine g_iload_n (i := 2) C dX2_copies_30 rfl rfl ?_
        refine g_iload_n (i := 3) C dX2_copies_31 rfl rfl ?_
        refine g_callS (av := [.int (nI f), .int ((nI i) - 6)]) C dX2_copies_32 ln_X2_105 mf_X2_place (kX2_place K (mW K bd (M.1, M.2.1, M.2.2.1, M.2.2.2.1, p, q, M.2.2.2.2.2.2.1, M.2.2.2.2.2.2.2.1, M.2.2.2.2.2.2.2.2.1, M.2.2.2.2.2.2.2.2.2) X) (nI f) ((nI i) - 6)) rfl rfl (Nat.le_of_ble_eq_true rfl) ⟨Nat.le_of_ble_eq_true rfl, Nat.le_of_ble_eq_true rfl⟩ ⟨Nat.zero_le _, Nat.zero_le _⟩ (fun _ => ?_)
        refine g_eqi (pl_nI f i) ?_
        refine g_lald C dX2_copies_35 3 rfl (vp_in_nI (by omega) (by decide)) ?_
        refine g_eql (congrArg p (nI_clamp (by omega))) ?_
        refine g_last (Wd2 := mW K bd (M.1, M.2.1, M.2.2.1, M.2.2.2.1, vp_updL p (nI (13 * z + i)).toNatClampNeg (p (13 * f + i)), q, M.2.2.2.2.2.2.1, M.2.2.2.2.2.2.2.1, M.2.2.2.2.2.2.2.2.1, M.2.2.2.2.2.2.2.2.2) X) C dX2_copies_36 3 rfl (vp_in_nI (by omega) (by decide)) rfl ?_
        refine g_aload_n (i := 0) C dX2_copies_37 rfl rfl ?_
        refine g_get C dX2_copies_38 fl_X2_27 0 rfl rfl ?_
        refine g_iload_n (i := 1) C dX2_copies_41 rfl rfl ?_
        refine g_iload_n (i := 3) C dX2_copies_42 rfl rfl ?_
        refine g_callS (av := [.int (nI z), .int ((nI i) - 6)]) C dX2_copies_43 ln_X2_105 mf_X2_place (kX2_place K (mW K bd (M.1, M.2.1, M.2.2.1, M.2.2.2.1, vp_updL p (nI (13 * z + i)).toNatClampNeg (p (13 * f + i)), q, M.2.2.2.2.2.2.1, M.2.2.2.2.2.2.2.1, M.2.2.2.2.2.2.2.2.1, M.2.2.2.2.2.2.2.2.2) X) (nI z) ((nI i) - 6)) rfl rfl (Nat.le_of_ble_eq_true rfl) ⟨Nat.le_of_ble_eq_true rfl, Nat.le_of_ble_eq_true rfl⟩ ⟨Nat.zero_le _, Nat.zero_le _⟩ (fun _ => ?_)
        refine g_eqi (pl_nI z i) ?_
        refine g_iload_n (i := 2) C dX2_copies_46 rfl rfl ?_
        refine g_if_ge (tgt := 54) C dX2_copies_47 (by decide) (fun c47_3 => ?_) (fun c47_3 => absurd (nI_pos (by omega)) (fun q => c47_3 (Int32.not_lt.mp q)))
        refine g_aload_n (i := 0) C dX2_copies_54 rfl rfl ?_
        refine g_get C dX2_copies_55 fl_X2_27 0 rfl rfl ?_
        refine g_iload_n (i := 2) C dX2_copies_58 rfl rfl ?_
        refine g_iload_n (i := 3) C dX2_copies_59 rfl rfl ?_
        refine g_callS (av := [.int (nI f), .int ((nI i) - 6)]) C dX2_copies_60 ln_X2_105 mf_X2_place (kX2_place K (mW K bd (M.1, M.2.1, M.2.2.1, M.2.2.2.1, vp_updL p (nI (13 * z + i)).toNatClampNeg (p (13 * f + i)), q, M.2.2.2.2.2.2.1, M.2.2.2.2.2.2.2.1, M.2.2.2.2.2.2.2.2.1, M.2.2.2.2.2.2.2.2.2) X) (nI f) ((nI i) - 6)) rfl rfl (Nat.le_of_ble_eq_true rfl) ⟨Nat.le_of_ble_eq_true rfl, Nat.le_of_ble_eq_true rfl⟩ ⟨Nat.zero_le _, Nat.zero_le _⟩ (fun _ => ?_)
        refine g_eqi (pl_nI f i) ?_
        refine g_iald C dX2_copies_63 4 rfl (vp_in_nI (by omega) (by decide)) ?_
        refine g_eqi (congrArg q (nI_clamp (by omega))) ?_
        refine g_iast (Wd2 := mW K bd (M.1, M.2.1, M.2.2.1, M.2.2.2.1, vp_updL p (nI (13 * z + i)).toNatClampNeg (p (13 * f + i)), upd q (nI (13 * z + i)).toNatClampNeg (q (13 * f + i)), M.2.2.2.2.2.2.1, M.2.2.2.2.2.2.2.1, M.2.2.2.2.2.2.2.2.1, M.2.2.2.2.2.2.2.2.2) X) C dX2_copies_64 4 rfl (vp_in_nI (by omega) (by decide)) rfl ?_
        refine g_iinc (v := nI (i + 1) - 6) (lv2 := [(0, .ref (bd 0)), (1, .int (nI z)), (2, .int (nI f)), (3, .int (nI (i + 1) - 6))]) C dX2_copies_65 rfl (e_inc i) (by decide) rfl ?_
        refine g_goto (tgt := 3) C dX2_copies_68 (by decide) ?_
        exact g_lvs [0, 1, 2, 3] rfl (ihlo (i + 1) _ _ (by omega) (by omega) (by rw [nI_clamp (by omega), hlo2]; exact cpF_sL ei hne) (by rw [nI_clamp (by omega), hlo3]; exact cpF_sI ei hne))
  exact g_lvs [0, 1, 2, 3] rfl (lo 14 0 _ _ (by omega) (by omega) cpF_0 cpF_0)

set_option maxHeartbeats 600000 in
set_option maxRecDepth 100000 in
theorem kX2_greatest (K : KT) (bd : Nat → Nat) (M : MSt) (X : va_W) (z : Nat) (hz : z < 10) : ∀ lau : Launch, Con lau yX2_greatest cX2_greatest 3 (some .int) 1 21 K (mW K bd M X) (fun _ : Unit => mW K bd M X) [.ref (bd 0), .int (nI z)] (some (.int (nI (grM (abM M) z 13) - 7))) := by
  refine conI (by decide) (Nat.le_of_ble_eq_true rfl) (fun E C hR => ?_)
  show G E K 0 0 (mW K bd M X) [(0, .ref (bd 0)), (1, .int (nI z))] 0 []
  refine g_bipush (v := 6) C dX2_greatest_0 (by decide) ?_
  refine g_istore_n (i := 2) (lv2 := [(0, .ref (bd 0)), (1, .int (nI z)), (2, .int 6)]) C dX2_greatest_2 rfl (by decide) rfl ?_
  have lo : ∀ (fuel : Nat) (j : Nat) (v : Int32), j ≤ 13 → j < fuel → v = nI j - 7 → grM (abM M) z j = grM (abM M) z 13 → G E K 0 0 (mW K bd M X) [(0, .ref (bd 0)), (1, .int (nI z)), (2, .int v)] 3 [] := by
    intro fuel
    induction fuel with
    | zero =>
      intro j v hlo0 hlo1 hlo2 hlo3
      omega
    | succ fuel ihlo =>
      intro j v hlo0 hlo1 hlo2 hlo3
      refine g_iload_n (i := 2) C dX2_greatest_3 rfl rfl ?_
      refine g_bipush (v := (-6)) C dX2_greatest_4 (by decide) ?_
      refine g_icmp_lt (tgt := 30) C dX2_greatest_6 (by decide) (fun c6_1 => ?_) (fun c6_1 => ?_)
      · skip
        have ej : j = 0 := e_dnx (by rw [← hlo2]; exact c6_1) (by omega)
        subst ej
        refine g_iload_n (i := 2) C dX2_greatest_30 rfl rfl ?_
        exact hR _ _ _ _ () dX2_greatest_31 (by rw [← hlo3, hlo2]; rfl) (rfl)
      · skip
        obtain ⟨j2, rfl⟩ := e_dn (j := j) (by rw [← hlo2]; exact c6_1) (by omega)
        rw [e_pred] at hlo2
        subst hlo2
        refine g_aload_n (i := 0) C dX2_greatest_9 rfl rfl ?_
        refine g_get C dX2_greatest_10 fl_X2_23 0 rfl rfl ?_
        refine g_iload_n (i := 1) C dX2_greatest_13 rfl rfl ?_
        refine g_iload_n (i := 2) C dX2_greatest_14 rfl rfl ?_
        refine g_callS (av := [.int (nI z), .int ((nI j2) - 6)]) C dX2_greatest_15 ln_X2_105 mf_X2_place (kX2_place K (mW K bd M X) (nI z) ((nI j2) - 6)) rfl rfl (Nat.le_of_ble_eq_true rfl) ⟨Nat.le_of_ble_eq_true rfl, Nat.le_of_ble_eq_true rfl⟩ ⟨Nat.zero_le _, Nat.zero_le _⟩ (fun _ => ?_)
        refine g_eqi (pl_nI z j2) ?_
        refine g_lald C dX2_greatest_18 3 rfl (vp_in_nI (by omega) (by decide)) ?_
        refine g_eql (congrArg M.2.2.2.2.1 (nI_clamp (by omega))) ?_
        refine g_lconst (v := 0) C dX2_greatest_19 (by decide) ?_
        refine g_lcmp_ne (tgt := 30) C dX2_greatest_20 dX2_greatest_21 (by decide) (fun c20_2 => ?_) (fun c20_2 => ?_)
        · skip
          refine g_iload_n (i := 2) C dX2_greatest_30 rfl rfl ?_
          exact hR _ _ _ _ () dX2_greatest_31 (by rw [← hlo3, grM, if_neg c20_2, e_pred]) (rfl)
        · skip
          refine g_iinc (v := nI j2 - 6 + Int32.ofInt (-1)) (lv2 := [(0, .ref (bd 0)), (1, .int (nI z)), (2, .int (nI j2 - 6 + Int32.ofInt (-1)))]) C dX2_greatest_24 rfl rfl (by decide) rfl ?_
          refine g_goto (tgt := 3) C dX2_greatest_27 (by decide) ?_
          exact g_lvs [0, 1, 2] rfl (ihlo j2 _ (by omega) (by omega) (e_dec j2) (by rw [← hlo3, grM, if_pos c20_2]))
  exact g_lvs [0, 1, 2] rfl (lo 14 13 6 (by omega) (by omega) rfl rfl)

set_option maxHeartbeats 600000 in
set_option maxRecDepth 100000 in
theorem kX2_puts (K : KT) (bd : Nat → Nat) (M : MSt) (X : va_W) (z : Nat) (e : Int32) (a : Int64) (k : Nat) (hz : z < 10) (hk : k ≤ 40) (hB : HB M) : ∀ lau : Launch, Con lau yX2_puts cX2_puts 9 (some .boolean) 2 48 K (mW K bd M X) (fun _ : Unit => mW K bd ((mPut M z e a k).2) X) [.ref (bd 0), .int (nI z), .int e, .long a, .int (nI k)] (some (.int (bz (mPut M z e a k).1))) := by
  refine conZ (by decide) (Nat.le_of_ble_eq_true rfl) (fun E C hR => ?_)
  show G E K 0 0 (mW K bd M X) [(0, .ref (bd 0)), (1, .int (nI z)), (2, .int e), (3, .long a), (5, .int (nI k))] 0 []
  refine g_iload_n (i := 2) C dX2_puts_0 rfl rfl ?_
  refine g_i2l (v := Int32.toInt64 e) C dX2_puts_1 rfl ?_
  refine g_ldc2 (v := (-6)) C dX2_puts_2 kc_X2_108 ?_
  refine g_ldc2 (v := 6) C dX2_puts_5 kc_X2_110 ?_
  refine g_callS (av := [.long (Int32.toInt64 e), .long (-6), .long 6]) C dX2_puts_8 ln_X2_32 mf_X2_in (kX2_in K (mW K bd M X) (Int32.toInt64 e) (-6) 6) rfl rfl (Nat.le_of_ble_eq_true rfl) ⟨Nat.le_of_ble_eq_true rfl, Nat.le_of_ble_eq_true rfl⟩ ⟨Nat.zero_le _, Nat.zero_le _⟩ (fun _ => ?_)
  refine g_bz_ne (tgt := 16) C dX2_puts_11 (by decide) (fun c11_1 => ?_) (fun c11_1 => ?_)
  · skip
    obtain ⟨j, hj, ee, ej⟩ := e_slot c11_1
    obtain ⟨b, hb, eb⟩ := hB (13 * z + j) (by omega)
    have eb2 : (blM M (13 * z + j)).toNatClampNeg = b := by rw [eb, nI_clamp (by omega)]
    refine g_iload_n (i := 1) C dX2_puts_16 rfl rfl ?_
    refine g_iload_n (i := 2) C dX2_puts_17 rfl rfl ?_
    refine g_eqi ee ?_
    refine g_callS (av := [.int (nI z), .int ((nI j) - 6)]) C dX2_puts_18 ln_X2_105 mf_X2_place (kX2_place K (mW K bd M X) (nI z) ((nI j) - 6)) rfl rfl (Nat.le_of_ble_eq_true rfl) ⟨Nat.le_of_ble_eq_true rfl, Nat.le_of_ble_eq_true rfl⟩ ⟨Nat.zero_le _, Nat.zero_le _⟩ (fun _ => ?_)
    refine g_eqi (pl_nI z j) ?_
    refine g_istore (lv2 := [(0, .ref (bd 0)), (1, .int (nI z)), (2, .int e), (3, .long a), (5, .int (nI k)), (6, .int (nI (13 * z + j)))]) C dX2_puts_21 (by decide) rfl ?_
    refine g_aload_n (i := 0) C dX2_puts_23 rfl rfl ?_
    refine g_get C dX2_puts_24 fl_X2_27 0 rfl rfl ?_
    refine g_iload C dX2_puts_27 rfl ?_
    refine g_iald C dX2_puts_29 4 rfl (vp_in_nI (by omega) (by decide)) ?_
    refine g_eqi (congrArg M.2.2.2.2.2.1 (nI_clamp (by omega))) ?_
    refine g_eqi eb ?_
    refine g_iload C dX2_puts_30 rfl ?_
    refine g_icmp_le (tgt := 45) C dX2_puts_32 (by decide) (fun c32_2 => ?_) (fun c32_2 => ?_)
    · skip
      have em : mx b k = k := if_pos c32_2
      refine g_iload C dX2_puts_45 rfl ?_
      refine g_istore (lv2 := [(0, .ref (bd 0)), (1, .int (nI z)), (2, .int e), (3, .long a), (5, .int (nI k)), (6, .int (nI (13 * z + j))), (7, .int (nI k))]) C dX2_puts_47 (by decide) rfl ?_
      refine g_aload_n (i := 0) C dX2_puts_49 rfl rfl ?_
      refine g_aload_n (i := 0) C dX2_puts_50 rfl rfl ?_
      refine g_get C dX2_puts_51 fl_X2_23 0 rfl rfl ?_
      refine g_iload C dX2_puts_54 rfl ?_
      refine g_lald C dX2_puts_56 3 rfl (vp_in_nI (by omega) (by decide)) ?_
      refine g_eql (congrArg M.2.2.2.2.1 (nI_clamp (by omega))) ?_
      refine g_iload C dX2_puts_57 rfl ?_
      refine g_aload_n (i := 0) C dX2_puts_59 rfl rfl ?_
      refine g_get C dX2_puts_60 fl_X2_27 0 rfl rfl ?_
      refine g_iload C dX2_puts_63 rfl ?_
      refine g_iald C dX2_puts_65 4 rfl (vp_in_nI (by omega) (by decide)) ?_
      refine g_eqi (congrArg M.2.2.2.2.2.1 (nI_clamp (by omega))) ?_
      refine g_eqi eb ?_
      refine g_isub C dX2_puts_66 ?_
      refine g_lshl (v := shlL (M.2.2.2.2.1 (13 * z + j)) ((nI k) - (nI b))) C dX2_puts_67 rfl ?_
      refine g_lload_n (i := 3) C dX2_puts_68 rfl rfl ?_
      refine g_iload C dX2_puts_69 rfl ?_
      refine g_iload C dX2_puts_71 rfl ?_
      refine g_isub C dX2_puts_73 ?_
      refine g_lshl (v := shlL a ((nI k) - (nI k))) C dX2_puts_74 rfl ?_
      refine g_ladd C dX2_puts_75 ?_
      refine g_eql (show _ = putV (abM M (13 * z + j)) b a k from by rw [putV, em]) ?_
      refine g_iload C dX2_puts_76 rfl ?_
      refine g_eqi (congrArg nI em.symm) ?_
      refine g_callV (av := [.long (putV (abM M (13 * z + j)) b a k), .int (nI (mx b k))]) C dX2_puts_78 ln_X2_112 mf_X2_plain 0 rfl rfl (kX2_plain K bd M X (putV (abM M (13 * z + j)) b a k) (mx b k) (by have := mx_le (n := 40) (show b ≤ 40 by omega) hk; omega)) rfl rfl (Nat.le_of_ble_eq_true rfl) ⟨Nat.le_of_ble_eq_true rfl, Nat.le_of_ble_eq_true rfl⟩ ⟨Nat.zero_le _, Nat.zero_le _⟩ (fun _ => ?_)
      refine g_istore (lv2 := [(0, .ref (bd 0)), (1, .int (nI z)), (2, .int e), (3, .long a), (5, .int (nI k)), (6, .int (nI (13 * z + j))), (7, .int (nI k)), (8, .int (bz (plM (putV (abM M (13 * z + j)) b a k) (mx b k))))]) C dX2_puts_81 (by decide) rfl ?_
      refine g_iload C dX2_puts_83 rfl ?_
      refine g_bz_eq (tgt := 123) C dX2_puts_85 (by decide) (fun c85_3 => ?_) (fun c85_3 => ?_)
      · skip
        refine g_iload C dX2_puts_123 rfl ?_
        exact hR _ _ _ _ () dX2_puts_125 (by rw [mPut, c11_1, cond_true, ej, mPutJ, eb2, c85_3, cond_false] <;> rfl) (by show _ = mW K bd (mPut M z e a k).2 X; rw [mPut, c11_1, cond_true, ej, mPutJ, eb2, c85_3, cond_false] <;> rfl)
      · skip
        refine g_aload_n (i := 0) C dX2_puts_88 rfl rfl ?_
        refine g_get C dX2_puts_89 fl_X2_23 0 rfl rfl ?_
        refine g_iload C dX2_puts_92 rfl ?_
        refine g_aload_n (i := 0) C dX2_puts_94 rfl rfl ?_
        refine g_get C dX2_puts_95 fl_X2_96 0 rfl rfl ?_
        refine g_last (Wd2 := mW K bd ((mPl M (putV (abM M (13 * z + j)) b a k) (mx b k)).1, (mPl M (putV (abM M (13 * z + j)) b a k) (mx b k)).2.1, (mPl M (putV (abM M (13 * z + j)) b a k) (mx b k)).2.2.1, (mPl M (putV (abM M (13 * z + j)) b a k) (mx b k)).2.2.2.1, vp_updL ((mPl M (putV (abM M (13 * z + j)) b a k) (mx b k)).2.2.2.2.1) (nI (13 * z + j)).toNatClampNeg ((mPl M (putV (abM M (13 * z + j)) b a k) (mx b k)).2.2.2.2.2.2.2.2.1), (mPl M (putV (abM M (13 * z + j)) b a k) (mx b k)).2.2.2.2.2.1, (mPl M (putV (abM M (13 * z + j)) b a k) (mx b k)).2.2.2.2.2.2.1, (mPl M (putV (abM M (13 * z + j)) b a k) (mx b k)).2.2.2.2.2.2.2.1, (mPl M (putV (abM M (13 * z + j)) b a k) (mx b k)).2.2.2.2.2.2.2.2.1, (mPl M (putV (abM M (13 * z + j)) b a k) (mx b k)).2.2.2.2.2.2.2.2.2) X) C dX2_puts_98 3 rfl (vp_in_nI (by omega) (by decide)) rfl ?_
        refine g_aload_n (i := 0) C dX2_puts_99 rfl rfl ?_
        refine g_get C dX2_puts_100 fl_X2_27 0 rfl rfl ?_
        refine g_iload C dX2_puts_103 rfl ?_
        refine g_aload_n (i := 0) C dX2_puts_105 rfl rfl ?_
        refine g_get C dX2_puts_106 fl_X2_96 0 rfl rfl ?_
        refine g_lconst (v := 0) C dX2_puts_109 (by decide) ?_
        refine g_lcmp_ne (tgt := 118) C dX2_puts_110 dX2_puts_111 (by decide) (fun c110_4 => ?_) (fun c110_4 => ?_)
        · skip
          refine g_aload_n (i := 0) C dX2_puts_118 rfl rfl ?_
          refine g_get C dX2_puts_119 fl_X2_100 0 rfl rfl ?_
          refine g_iast (Wd2 := mW K bd ((mPl M (putV (abM M (13 * z + j)) b a k) (mx b k)).1, (mPl M (putV (abM M (13 * z + j)) b a k) (mx b k)).2.1, (mPl M (putV (abM M (13 * z + j)) b a k) (mx b k)).2.2.1, (mPl M (putV (abM M (13 * z + j)) b a k) (mx b k)).2.2.2.1, vp_updL ((mPl M (putV (abM M (13 * z + j)) b a k) (mx b k)).2.2.2.2.1) (nI (13 * z + j)).toNatClampNeg ((mPl M (putV (abM M (13 * z + j)) b a k) (mx b k)).2.2.2.2.2.2.2.2.1), upd ((mPl M (putV (abM M (13 * z + j)) b a k) (mx b k)).2.2.2.2.2.1) (nI (13 * z + j)).toNatClampNeg ((mPl M (putV (abM M (13 * z + j)) b a k) (mx b k)).2.2.2.2.2.2.2.2.2), (mPl M (putV (abM M (13 * z + j)) b a k) (mx b k)).2.2.2.2.2.2.1, (mPl M (putV (abM M (13 * z + j)) b a k) (mx b k)).2.2.2.2.2.2.2.1, (mPl M (putV (abM M (13 * z + j)) b a k) (mx b k)).2.2.2.2.2.2.2.2.1, (mPl M (putV (abM M (13 * z + j)) b a k) (mx b k)).2.2.2.2.2.2.2.2.2) X) C dX2_puts_122 4 rfl (vp_in_nI (by omega) (by decide)) rfl ?_
          refine g_iload C dX2_puts_123 rfl ?_
          exact hR _ _ _ _ () dX2_puts_125 (by rw [mPut, c11_1, cond_true, ej, mPutJ, eb2, c85_3, cond_true] <;> rfl) (by show _ = mW K bd (mPut M z e a k).2 X; rw [mPut, c11_1, cond_true, ej, mPutJ, eb2, c85_3, cond_true, nI_clamp (by omega), if_neg (show ¬ (rdM (mx b k) (putV (abM M (13 * z + j)) b a k)).1 = 0 from c110_4)] <;> rfl)
        · skip
          refine g_iconst (v := 0) C dX2_puts_114 (by decide) ?_
          refine g_goto (tgt := 122) C dX2_puts_115 (by decide) ?_
          refine g_iast (Wd2 := mW K bd ((mPl M (putV (abM M (13 * z + j)) b a k) (mx b k)).1, (mPl M (putV (abM M (13 * z + j)) b a k) (mx b k)).2.1, (mPl M (putV (abM M (13 * z + j)) b a k) (mx b k)).2.2.1, (mPl M (putV (abM M (13 * z + j)) b a k) (mx b k)).2.2.2.1, vp_updL ((mPl M (putV (abM M (13 * z + j)) b a k) (mx b k)).2.2.2.2.1) (nI (13 * z + j)).toNatClampNeg ((mPl M (putV (abM M (13 * z + j)) b a k) (mx b k)).2.2.2.2.2.2.2.2.1), upd ((mPl M (putV (abM M (13 * z + j)) b a k) (mx b k)).2.2.2.2.2.1) (nI (13 * z + j)).toNatClampNeg 0, (mPl M (putV (abM M (13 * z + j)) b a k) (mx b k)).2.2.2.2.2.2.1, (mPl M (putV (abM M (13 * z + j)) b a k) (mx b k)).2.2.2.2.2.2.2.1, (mPl M (putV (abM M (13 * z + j)) b a k) (mx b k)).2.2.2.2.2.2.2.2.1, (mPl M (putV (abM M (13 * z + j)) b a k) (mx b k)).2.2.2.2.2.2.2.2.2) X) C dX2_puts_122 4 rfl (vp_in_nI (by omega) (by decide)) rfl ?_
          refine g_iload C dX2_puts_123 rfl ?_
          exact hR _ _ _ _ () dX2_puts_125 (by rw [mPut, c11_1, cond_true, ej, mPutJ, eb2, c85_3, cond_true] <;> rfl) (by show _ = mW K bd (mPut M z e a k).2 X; rw [mPut, c11_1, cond_true, ej, mPutJ, eb2, c85_3, cond_true, nI_clamp (by omega), if_pos (show (rdM (mx b k) (putV (abM M (13 * z + j)) b a k)).1 = 0 from c110_4)] <;> rfl)
    · skip
      have em : mx b k = b := if_neg c32_2
      refine g_aload_n (i := 0) C dX2_puts_35 rfl rfl ?_
      refine g_get C dX2_puts_36 fl_X2_27 0 rfl rfl ?_
      refine g_iload C dX2_puts_39 rfl ?_
      refine g_iald C dX2_puts_41 4 rfl (vp_in_nI (by omega) (by decide)) ?_
      refine g_eqi (congrArg M.2.2.2.2.2.1 (nI_clamp (by omega))) ?_
      refine g_eqi eb ?_
      refine g_goto (tgt := 47) C dX2_puts_42 (by decide) ?_
      refine g_istore (lv2 := [(0, .ref (bd 0)), (1, .int (nI z)), (2, .int e), (3, .long a), (5, .int (nI k)), (6, .int (nI (13 * z + j))), (7, .int (nI b))]) C dX2_puts_47 (by decide) rfl ?_
      refine g_aload_n (i := 0) C dX2_puts_49 rfl rfl ?_
      refine g_aload_n (i := 0) C dX2_puts_50 rfl rfl ?_
      refine g_get C dX2_puts_51 fl_X2_23 0 rfl rfl ?_
      refine g_iload C dX2_puts_54 rfl ?_
      refine g_lald C dX2_puts_56 3 rfl (vp_in_nI (by omega) (by decide)) ?_
      refine g_eql (congrArg M.2.2.2.2.1 (nI_clamp (by omega))) ?_
      refine g_iload C dX2_puts_57 rfl ?_
      refine g_aload_n (i := 0) C dX2_puts_59 rfl rfl ?_
      refine g_get C dX2_puts_60 fl_X2_27 0 rfl rfl ?_
      refine g_iload C dX2_puts_63 rfl ?_
      refine g_iald C dX2_puts_65 4 rfl (vp_in_nI (by omega) (by decide)) ?_
      refine g_eqi (congrArg M.2.2.2.2.2.1 (nI_clamp (by omega))) ?_
      refine g_eqi eb ?_
      refine g_isub C dX2_puts_66 ?_
      refine g_lshl (v := shlL (M.2.2.2.2.1 (13 * z + j)) ((nI b) - (nI b))) C dX2_puts_67 rfl ?_
      refine g_lload_n (i := 3) C dX2_puts_68 rfl rfl ?_
      refine g_iload C dX2_puts_69 rfl ?_
      refine g_iload C dX2_puts_71 rfl ?_
      refine g_isub C dX2_puts_73 ?_
      refine g_lshl (v := shlL a ((nI b) - (nI k))) C dX2_puts_74 rfl ?_
      refine g_ladd C dX2_puts_75 ?_
      refine g_eql (show _ = putV (abM M (13 * z + j)) b a k from by rw [putV, em]) ?_
      refine g_iload C dX2_puts_76 rfl ?_
      refine g_eqi (congrArg nI em.symm) ?_
      refine g_callV (av := [.long (putV (abM M (13 * z + j)) b a k), .int (nI (mx b k))]) C dX2_puts_78 ln_X2_112 mf_X2_plain 0 rfl rfl (kX2_plain K bd M X (putV (abM M (13 * z + j)) b a k) (mx b k) (by have := mx_le (n := 40) (show b ≤ 40 by omega) hk; omega)) rfl rfl (Nat.le_of_ble_eq_true rfl) ⟨Nat.le_of_ble_eq_true rfl, Nat.le_of_ble_eq_true rfl⟩ ⟨Nat.zero_le _, Nat.zero_le _⟩ (fun _ => ?_)
      refine g_istore (lv2 := [(0, .ref (bd 0)), (1, .int (nI z)), (2, .int e), (3, .long a), (5, .int (nI k)), (6, .int (nI (13 * z + j))), (7, .int (nI b)), (8, .int (bz (plM (putV (abM M (13 * z + j)) b a k) (mx b k))))]) C dX2_puts_81 (by decide) rfl ?_
      refine g_iload C dX2_puts_83 rfl ?_
      refine g_bz_eq (tgt := 123) C dX2_puts_85 (by decide) (fun c85_5 => ?_) (fun c85_5 => ?_)
      · skip
        refine g_iload C dX2_puts_123 rfl ?_
        exact hR _ _ _ _ () dX2_puts_125 (by rw [mPut, c11_1, cond_true, ej, mPutJ, eb2, c85_5, cond_false] <;> rfl) (by show _ = mW K bd (mPut M z e a k).2 X; rw [mPut, c11_1, cond_true, ej, mPutJ, eb2, c85_5, cond_false] <;> rfl)
      · skip
        refine g_aload_n (i := 0) C dX2_puts_88 rfl rfl ?_
        refine g_get C dX2_puts_89 fl_X2_23 0 rfl rfl ?_
        refine g_iload C dX2_puts_92 rfl ?_
        refine g_aload_n (i := 0) C dX2_puts_94 rfl rfl ?_
        refine g_get C dX2_puts_95 fl_X2_96 0 rfl rfl ?_
        refine g_last (Wd2 := mW K bd ((mPl M (putV (abM M (13 * z + j)) b a k) (mx b k)).1, (mPl M (putV (abM M (13 * z + j)) b a k) (mx b k)).2.1, (mPl M (putV (abM M (13 * z + j)) b a k) (mx b k)).2.2.1, (mPl M (putV (abM M (13 * z + j)) b a k) (mx b k)).2.2.2.1, vp_updL ((mPl M (putV (abM M (13 * z + j)) b a k) (mx b k)).2.2.2.2.1) (nI (13 * z + j)).toNatClampNeg ((mPl M (putV (abM M (13 * z + j)) b a k) (mx b k)).2.2.2.2.2.2.2.2.1), (mPl M (putV (abM M (13 * z + j)) b a k) (mx b k)).2.2.2.2.2.1, (mPl M (putV (abM M (13 * z + j)) b a k) (mx b k)).2.2.2.2.2.2.1, (mPl M (putV (abM M (13 * z + j)) b a k) (mx b k)).2.2.2.2.2.2.2.1, (mPl M (putV (abM M (13 * z + j)) b a k) (mx b k)).2.2.2.2.2.2.2.2.1, (mPl M (putV (abM M (13 * z + j)) b a k) (mx b k)).2.2.2.2.2.2.2.2.2) X) C dX2_puts_98 3 rfl (vp_in_nI (by omega) (by decide)) rfl ?_
        refine g_aload_n (i := 0) C dX2_puts_99 rfl rfl ?_
        refine g_get C dX2_puts_100 fl_X2_27 0 rfl rfl ?_
        refine g_iload C dX2_puts_103 rfl ?_
        refine g_aload_n (i := 0) C dX2_puts_105 rfl rfl ?_
        refine g_get C dX2_puts_106 fl_X2_96 0 rfl rfl ?_
        refine g_lconst (v := 0) C dX2_puts_109 (by decide) ?_
        refine g_lcmp_ne (tgt := 118) C dX2_puts_110 dX2_puts_111 (by decide) (fun c110_6 => ?_) (fun c110_6 => ?_)
        · skip
          refine g_aload_n (i := 0) C dX2_puts_118 rfl rfl ?_
          refine g_get C dX2_puts_119 fl_X2_100 0 rfl rfl ?_
          refine g_iast (Wd2 := mW K bd ((mPl M (putV (abM M (13 * z + j)) b a k) (mx b k)).1, (mPl M (putV (abM M (13 * z + j)) b a k) (mx b k)).2.1, (mPl M (putV (abM M (13 * z + j)) b a k) (mx b k)).2.2.1, (mPl M (putV (abM M (13 * z + j)) b a k) (mx b k)).2.2.2.1, vp_updL ((mPl M (putV (abM M (13 * z + j)) b a k) (mx b k)).2.2.2.2.1) (nI (13 * z + j)).toNatClampNeg ((mPl M (putV (abM M (13 * z + j)) b a k) (mx b k)).2.2.2.2.2.2.2.2.1), upd ((mPl M (putV (abM M (13 * z + j)) b a k) (mx b k)).2.2.2.2.2.1) (nI (13 * z + j)).toNatClampNeg ((mPl M (putV (abM M (13 * z + j)) b a k) (mx b k)).2.2.2.2.2.2.2.2.2), (mPl M (putV (abM M (13 * z + j)) b a k) (mx b k)).2.2.2.2.2.2.1, (mPl M (putV (abM M (13 * z + j)) b a k) (mx b k)).2.2.2.2.2.2.2.1, (mPl M (putV (abM M (13 * z + j)) b a k) (mx b k)).2.2.2.2.2.2.2.2.1, (mPl M (putV (abM M (13 * z + j)) b a k) (mx b k)).2.2.2.2.2.2.2.2.2) X) C dX2_puts_122 4 rfl (vp_in_nI (by omega) (by decide)) rfl ?_
          refine g_iload C dX2_puts_123 rfl ?_
          exact hR _ _ _ _ () dX2_puts_125 (by rw [mPut, c11_1, cond_true, ej, mPutJ, eb2, c85_5, cond_true] <;> rfl) (by show _ = mW K bd (mPut M z e a k).2 X; rw [mPut, c11_1, cond_true, ej, mPutJ, eb2, c85_5, cond_true, nI_clamp (by omega), if_neg (show ¬ (rdM (mx b k) (putV (abM M (13 * z + j)) b a k)).1 = 0 from c110_6)] <;> rfl)
        · skip
          refine g_iconst (v := 0) C dX2_puts_114 (by decide) ?_
          refine g_goto (tgt := 122) C dX2_puts_115 (by decide) ?_
          refine g_iast (Wd2 := mW K bd ((mPl M (putV (abM M (13 * z + j)) b a k) (mx b k)).1, (mPl M (putV (abM M (13 * z + j)) b a k) (mx b k)).2.1, (mPl M (putV (abM M (13 * z + j)) b a k) (mx b k)).2.2.1, (mPl M (putV (abM M (13 * z + j)) b a k) (mx b k)).2.2.2.1, vp_updL ((mPl M (putV (abM M (13 * z + j)) b a k) (mx b k)).2.2.2.2.1) (nI (13 * z + j)).toNatClampNeg ((mPl M (putV (abM M (13 * z + j)) b a k) (mx b k)).2.2.2.2.2.2.2.2.1), upd ((mPl M (putV (abM M (13 * z + j)) b a k) (mx b k)).2.2.2.2.2.1) (nI (13 * z + j)).toNatClampNeg 0, (mPl M (putV (abM M (13 * z + j)) b a k) (mx b k)).2.2.2.2.2.2.1, (mPl M (putV (abM M (13 * z + j)) b a k) (mx b k)).2.2.2.2.2.2.2.1, (mPl M (putV (abM M (13 * z + j)) b a k) (mx b k)).2.2.2.2.2.2.2.2.1, (mPl M (putV (abM M (13 * z + j)) b a k) (mx b k)).2.2.2.2.2.2.2.2.2) X) C dX2_puts_122 4 rfl (vp_in_nI (by omega) (by decide)) rfl ?_
          refine g_iload C dX2_puts_123 rfl ?_
          exact hR _ _ _ _ () dX2_puts_125 (by rw [mPut, c11_1, cond_true, ej, mPutJ, eb2, c85_5, cond_true] <;> rfl) (by show _ = mW K bd (mPut M z e a k).2 X; rw [mPut, c11_1, cond_true, ej, mPutJ, eb2, c85_5, cond_true, nI_clamp (by omega), if_pos (show (rdM (mx b k) (putV (abM M (13 * z + j)) b a k)).1 = 0 from c110_6)] <;> rfl)
  · skip
    refine g_iconst (v := 0) C dX2_puts_14 (by decide) ?_
    exact hR _ _ _ _ () dX2_puts_15 (by rw [mPut, c11_1, cond_false] <;> rfl) (by show _ = mW K bd (mPut M z e a k).2 X; rw [mPut, c11_1, cond_false] <;> rfl)
