def bt (x : Int32) (i : Nat) : Bool := tb x (nI i)
def wst (b : Nat → Bool) (one : Int64) : Nat → Bool × Int64 × Int64
  | 0 => (true, one, 0)
  | i + 1 => ((wst b one i).1 && (b i == b 0), bif (wst b one i).1 && (b i == b 0) then (wst b one i).2.1 else (wst b one i).2.1 / 2, (wst b one i).2.2 + bif b i then (bif (wst b one i).1 && (b i == b 0) then (wst b one i).2.1 else (wst b one i).2.1 / 2) else -(bif (wst b one i).1 && (b i == b 0) then (wst b one i).2.1 else (wst b one i).2.1 / 2))
def wC (x : Int32) (n : Nat) : Int64 := (wst (bt x) 8388608 n).2.2
def wM (x : Int32) (n : Nat) : Int64 := (wst (bt x) 16777216 n).2.2
theorem nlt {a b : Nat} (h : ¬ nI a ≤ nI b) (ha : a < 2 ^ 31) (hb : b < 2 ^ 31) : b < a := Nat.lt_of_not_le (fun q => h (nI_le q hb))
theorem nle {a b : Nat} (h : nI a ≤ nI b) (ha : a < 2 ^ 31) (hb : b < 2 ^ 31) : a ≤ b := (nI_leI ha hb).mp h
theorem and1 {a b : Int32} (h : a.toBitVec.getLsbD 0 = b.toBitVec.getLsbD 0) : a &&& 1 = b &&& 1 := by
  apply Int32.toBitVec_inj.mp
  rw [Int32.toBitVec_and, Int32.toBitVec_and, show (1 : Int32).toBitVec = 1#32 from rfl]
  apply BitVec.eq_of_getLsbD_eq
  intro i hi
  rw [BitVec.getLsbD_and, BitVec.getLsbD_and, BitVec.getLsbD_one]
  by_cases h0 : i = 0
  · subst h0; rw [h]
  · simp [h0]
theorem s_32 : ∀ n, n < 32 → ((nI n).toBitVec.smod 32).toNat = n := by decide +kernel
theorem s_32u (i : Int32) : ((i.toUInt32 &&& Int32.toUInt32 31).toBitVec % 32).toNat = i.toBitVec.toNat % 32 := by
  rw [BitVec.toNat_umod, UInt32.toBitVec_and, BitVec.toNat_and, show (Int32.toUInt32 31).toBitVec.toNat = 2 ^ 5 - 1 from rfl, Nat.and_two_pow_sub_one_eq_mod]
  show i.toBitVec.toNat % 32 % 32 = i.toBitVec.toNat % 32
  omega
theorem shr_bit (x i : Int32) (j : Nat) (h : i.toBitVec.toNat % 32 + j < 32) : (x >>> (i &&& 31)).toBitVec.getLsbD j = x.toBitVec.getLsbD (i.toBitVec.toNat % 32 + j) := by
  have hj : i &&& 31 = nI (i.toBitVec.toNat % 32) := pk_and i 5 (by decide)
  have hlt : i.toBitVec.toNat % 32 < 32 := Nat.mod_lt _ (by decide)
  generalize hk : i.toBitVec.toNat % 32 = k at hj hlt h
  rw [hj, Int32.toBitVec_shiftRight, BitVec.sshiftRight', show ((nI k).toBitVec.smod 32).toNat = k from s_32 k hlt, BitVec.getLsbD_sshiftRight]
  simp [h]
  omega
theorem ushr_bit (x i : Int32) (j : Nat) : (ushrI x i).toBitVec.getLsbD j = x.toBitVec.getLsbD (i.toBitVec.toNat % 32 + j) := by
  show (x.toUInt32 >>> (i.toUInt32 &&& Int32.toUInt32 31)).toBitVec.getLsbD j = _
  rw [UInt32.toBitVec_shiftRight, BitVec.ushiftRight_eq', s_32u, BitVec.getLsbD_ushiftRight]
  rfl
theorem sbit (x i : Int32) : (x >>> (i &&& 31)) &&& 1 = ushrI x i &&& 1 := by
  apply and1
  rw [ushr_bit, shr_bit _ _ _ (by have := Nat.mod_lt i.toBitVec.toNat (show 0 < 32 by decide); omega)]
theorem and1b (x : Int32) : x &&& 1 = bz (decide (x &&& 1 = 1)) := by
  have h : (x &&& 1) = nI (x.toBitVec.toNat % 2 ^ 1) := pk_and x 1 (by decide)
  rw [h]
  have h2 : x.toBitVec.toNat % 2 ^ 1 < 2 := Nat.mod_lt _ (by decide)
  generalize x.toBitVec.toNat % 2 ^ 1 = k at h2
  match k, h2 with
  | 0, _ => decide
  | 1, _ => decide
theorem sbz (x i : Int32) : (x >>> (i &&& 31)) &&& 1 = bz (tb x i) := by
  rw [sbit, and1b]; rfl
theorem tbS (x i : Int32) : decide ((x >>> (i &&& 31)) &&& 1 = 1) = tb x i := by
  unfold tb; rw [sbit]
theorem tb0 (x : Int32) : decide (x &&& 1 = 1) = tb x 0 := by
  unfold tb
  rw [show x &&& 1 = ushrI x 0 &&& 1 from and1 (by rw [ushr_bit]; rfl)]
theorem wst_one {b : Nat → Bool} {one : Int64} : ∀ {i : Nat}, (wst b one i).1 = true → (wst b one i).2.1 = one
  | 0, _ => rfl
  | i + 1, h => by
    have h1 : ((wst b one i).1 && (b i == b 0)) = true := h
    have h2 : (wst b one i).1 = true := by revert h1; cases (wst b one i).1 <;> simp
    show (bif (wst b one i).1 && (b i == b 0) then (wst b one i).2.1 else (wst b one i).2.1 / 2) = one
    rw [h1]
    exact wst_one h2
theorem wst_s {b : Nat → Bool} {one : Int64} {i : Nat} {r : Bool} {v a : Int64} (h : wst b one i = (r, v, a)) {q t : Bool} (hq : (r && (b i == b 0)) = q) (ht : b i = t) : wst b one (i + 1) = (r && (b i == b 0), bif q then v else v / 2, a + bif t then (bif q then v else v / 2) else -(bif q then v else v / 2)) := by
  subst hq ht
  simp only [wst, h]
theorem wst_sM {b : Nat → Bool} {one : Int64} {i : Nat} {r : Bool} {v a : Int64} (h : wst b one i = (r, v, a)) {q t : Bool} (hq : (r && (b i == b 0)) = q) (ht : b i = t) : wst b one (i + 1) = (r && (b i == b 0), bif q then one else v / 2, a + bif t then (bif q then one else v / 2) else -(bif q then one else v / 2)) := by
  have h1 := wst_s h hq ht
  rw [h1]
  cases q with
  | false => rfl
  | true =>
    have h2 := @wst_one b one i
    rw [h] at h2
    have h3 : r = true := by revert hq; cases r <;> simp
    have h4 : v = one := h2 h3
    rw [h4]
set_option maxHeartbeats 600000 in
set_option maxRecDepth 100000 in
theorem kX1_worth (K : KT) (Wd : va_W) (n : Nat) (sg : Int32) (hn : n < 2 ^ 31) : ∀ lau : Launch, Con lau yX1_worth cX1_worth 10 (some .long) 2 42 K Wd (fun _ : Unit => Wd) [.int (nI n), .int sg] (some (.long (wC sg n))) := by
  refine conL (by decide) (Nat.le_of_ble_eq_true rfl) (fun E C hR => ?_)
  show G E K 0 0 Wd [(0, .int (nI n)), (1, .int sg)] 0 []
  refine g_iload_n (i := 1) C dX1_worth_0 rfl rfl ?_
  refine g_iconst (v := 0) C dX1_worth_1 (by decide) ?_
  refine g_callS (av := [.int sg, .int 0]) C dX1_worth_2 ln_X1_57 mf_X1_isPlus (kX1_isPlus K Wd sg 0) rfl rfl (Nat.le_of_ble_eq_true rfl) ⟨Nat.le_of_ble_eq_true rfl, Nat.le_of_ble_eq_true rfl⟩ ⟨Nat.zero_le _, Nat.zero_le _⟩ (fun _ => ?_)
  refine g_istore_n (i := 2) (lv2 := [(0, .int (nI n)), (1, .int sg), (2, .int (bz (tb sg 0)))]) C dX1_worth_5 rfl (by decide) rfl ?_
  refine g_iconst (v := 1) C dX1_worth_6 (by decide) ?_
  refine g_istore_n (i := 3) (lv2 := [(0, .int (nI n)), (1, .int sg), (2, .int (bz (tb sg 0))), (3, .int 1)]) C dX1_worth_7 rfl (by decide) rfl ?_
  refine g_ldc2 (v := 8388608) C dX1_worth_8 kc_X1_186 ?_
  refine g_lstore (lv2 := [(0, .int (nI n)), (1, .int sg), (2, .int (bz (tb sg 0))), (3, .int 1), (4, .long 8388608)]) C dX1_worth_11 (by decide) rfl ?_
  refine g_lconst (v := 0) C dX1_worth_13 (by decide) ?_
  refine g_lstore (lv2 := [(0, .int (nI n)), (1, .int sg), (2, .int (bz (tb sg 0))), (3, .int 1), (4, .long 8388608), (6, .long 0)]) C dX1_worth_14 (by decide) rfl ?_
  refine g_iconst (v := 0) C dX1_worth_16 (by decide) ?_
  refine g_istore (lv2 := [(0, .int (nI n)), (1, .int sg), (2, .int (bz (tb sg 0))), (3, .int 1), (4, .long 8388608), (6, .long 0), (8, .int 0)]) C dX1_worth_17 (by decide) rfl ?_
  have lp : ∀ (fuel : Nat) (i : Nat) (r : Bool) (v a : Int64), i ≤ n → n < i + fuel → wst (bt sg) 8388608 i = (r, v, a) → G E K 0 0 Wd [(0, .int (nI n)), (1, .int sg), (2, .int (bz (tb sg 0))), (3, .int (bz r)), (4, .long v), (6, .long a), (8, .int (nI i))] 19 [] := by
    intro fuel
    induction fuel with
    | zero =>
      intro i r v a hlp0 hlp1 hlp2
      omega
    | succ fuel ihlp =>
      intro i r v a hlp0 hlp1 hlp2
      refine g_iload C dX1_worth_19 rfl ?_
      refine g_iload_n (i := 0) C dX1_worth_21 rfl rfl ?_
      refine g_icmp_ge (tgt := 85) C dX1_worth_22 (by decide) (fun c22_1 => ?_) (fun c22_1 => ?_)
      · skip
        refine g_lload C dX1_worth_85 rfl ?_
        exact hR _ _ _ _ () dX1_worth_87 (by have e : i = n := Nat.le_antisymm hlp0 (nle c22_1 hn (by omega)); subst e; simp [wC, hlp2]) (rfl)
      · skip
        refine g_iload_n (i := 1) C dX1_worth_25 rfl rfl ?_
        refine g_iload C dX1_worth_26 rfl ?_
        refine g_callS (av := [.int sg, .int (nI i)]) C dX1_worth_28 ln_X1_57 mf_X1_isPlus (kX1_isPlus K Wd sg (nI i)) rfl rfl (Nat.le_of_ble_eq_true rfl) ⟨Nat.le_of_ble_eq_true rfl, Nat.le_of_ble_eq_true rfl⟩ ⟨Nat.zero_le _, Nat.zero_le _⟩ (fun _ => ?_)
        refine g_istore (lv2 := [(0, .int (nI n)), (1, .int sg), (2, .int (bz (tb sg 0))), (3, .int (bz r)), (4, .long v), (6, .long a), (8, .int (nI i)), (9, .int (bz (tb sg (nI i))))]) C dX1_worth_31 (by decide) rfl ?_
        have j48 : G E K 0 0 Wd [(0, .int (nI n)), (1, .int sg), (2, .int (bz (tb sg 0))), (3, .int (bz r)), (4, .long v), (6, .long a), (8, .int (nI i)), (9, .int (bz (tb sg (nI i))))] 48 [.int (bz (r && (tb sg (nI i) == tb sg 0)))] := by
          refine g_istore_n (i := 3) (lv2 := [(0, .int (nI n)), (1, .int sg), (2, .int (bz (tb sg 0))), (3, .int (bz (r && (tb sg (nI i) == tb sg 0)))), (4, .long v), (6, .long a), (8, .int (nI i)), (9, .int (bz (tb sg (nI i))))]) C dX1_worth_48 rfl (by decide) rfl ?_
          refine g_iload_n (i := 3) C dX1_worth_49 rfl rfl ?_
          refine g_bz_ne (tgt := 61) C dX1_worth_50 (by decide) (fun c50_2 => ?_) (fun c50_2 => ?_)
          · skip
            refine g_lload C dX1_worth_61 rfl ?_
            refine g_iload C dX1_worth_63 rfl ?_
            refine g_bz_eq (tgt := 73) C dX1_worth_65 (by decide) (fun c65_3 => ?_) (fun c65_3 => ?_)
            · skip
              refine g_lload C dX1_worth_73 rfl ?_
              refine g_lneg C dX1_worth_75 ?_
              refine g_ladd C dX1_worth_76 ?_
              refine g_lstore (lv2 := [(0, .int (nI n)), (1, .int sg), (2, .int (bz (tb sg 0))), (3, .int (bz (r && (tb sg (nI i) == tb sg 0)))), (4, .long v), (6, .long (a + (-v))), (8, .int (nI i)), (9, .int (bz (tb sg (nI i))))]) C dX1_worth_77 (by decide) rfl ?_
              refine g_iinc (v := nI (i + 1)) (lv2 := [(0, .int (nI n)), (1, .int sg), (2, .int (bz (tb sg 0))), (3, .int (bz (r && (tb sg (nI i) == tb sg 0)))), (4, .long v), (6, .long (a + (-v))), (8, .int (nI (i + 1))), (9, .int (bz (tb sg (nI i))))]) C dX1_worth_79 rfl (nI_inc i) (by decide) rfl ?_
              refine g_goto (tgt := 19) C dX1_worth_82 (by decide) ?_
              exact g_lvs [0, 1, 2, 3, 4, 5, 6] rfl (ihlp (i + 1) _ _ _ (nlt c22_1 hn (by omega)) (by omega) (by have h := wst_s hlp2 c50_2 c65_3; simp only [cond_true, cond_false] at h; exact h))
            · skip
              refine g_lload C dX1_worth_68 rfl ?_
              refine g_goto (tgt := 76) C dX1_worth_70 (by decide) ?_
              refine g_ladd C dX1_worth_76 ?_
              refine g_lstore (lv2 := [(0, .int (nI n)), (1, .int sg), (2, .int (bz (tb sg 0))), (3, .int (bz (r && (tb sg (nI i) == tb sg 0)))), (4, .long v), (6, .long (a + v)), (8, .int (nI i)), (9, .int (bz (tb sg (nI i))))]) C dX1_worth_77 (by decide) rfl ?_
              refine g_iinc (v := nI (i + 1)) (lv2 := [(0, .int (nI n)), (1, .int sg), (2, .int (bz (tb sg 0))), (3, .int (bz (r && (tb sg (nI i) == tb sg 0)))), (4, .long v), (6, .long (a + v)), (8, .int (nI (i + 1))), (9, .int (bz (tb sg (nI i))))]) C dX1_worth_79 rfl (nI_inc i) (by decide) rfl ?_
              refine g_goto (tgt := 19) C dX1_worth_82 (by decide) ?_
              exact g_lvs [0, 1, 2, 3, 4, 5, 6] rfl (ihlp (i + 1) _ _ _ (nlt c22_1 hn (by omega)) (by omega) (by have h := wst_s hlp2 c50_2 c65_3; simp only [cond_true, cond_false] at h; exact h))
          · skip
            refine g_lload C dX1_worth_53 rfl ?_
            refine g_ldc2 (v := 2) C dX1_worth_55 kc_X1_188 ?_
            refine g_ldiv C dX1_worth_58 (by decide) ?_
            refine g_lstore (lv2 := [(0, .int (nI n)), (1, .int sg), (2, .int (bz (tb sg 0))), (3, .int (bz (r && (tb sg (nI i) == tb sg 0)))), (4, .long (v / 2)), (6, .long a), (8, .int (nI i)), (9, .int (bz (tb sg (nI i))))]) C dX1_worth_59 (by decide) rfl ?_
            refine g_lload C dX1_worth_61 rfl ?_
            refine g_iload C dX1_worth_63 rfl ?_
            refine g_bz_eq (tgt := 73) C dX1_worth_65 (by decide) (fun c65_4 => ?_) (fun c65_4 => ?_)
            · skip
              refine g_lload C dX1_worth_73 rfl ?_
              refine g_lneg C dX1_worth_75 ?_
              refine g_ladd C dX1_worth_76 ?_
              refine g_lstore (lv2 := [(0, .int (nI n)), (1, .int sg), (2, .int (bz (tb sg 0))), (3, .int (bz (r && (tb sg (nI i) == tb sg 0)))), (4, .long (v / 2)), (6, .long (a + (-(v / 2)))), (8, .int (nI i)), (9, .int (bz (tb sg (nI i))))]) C dX1_worth_77 (by decide) rfl ?_
              refine g_iinc (v := nI (i + 1)) (lv2 := [(0, .int (nI n)), (1, .int sg), (2, .int (bz (tb sg 0))), (3, .int (bz (r && (tb sg (nI i) == tb sg 0)))), (4, .long (v / 2)), (6, .long (a + (-(v / 2)))), (8, .int (nI (i + 1))), (9, .int (bz (tb sg (nI i))))]) C dX1_worth_79 rfl (nI_inc i) (by decide) rfl ?_
              refine g_goto (tgt := 19) C dX1_worth_82 (by decide) ?_
              exact g_lvs [0, 1, 2, 3, 4, 5, 6] rfl (ihlp (i + 1) _ _ _ (nlt c22_1 hn (by omega)) (by omega) (by have h := wst_s hlp2 c50_2 c65_4; simp only [cond_true, cond_false] at h; exact h))
            · skip
              refine g_lload C dX1_worth_68 rfl ?_
              refine g_goto (tgt := 76) C dX1_worth_70 (by decide) ?_
              refine g_ladd C dX1_worth_76 ?_
              refine g_lstore (lv2 := [(0, .int (nI n)), (1, .int sg), (2, .int (bz (tb sg 0))), (3, .int (bz (r && (tb sg (nI i) == tb sg 0)))), (4, .long (v / 2)), (6, .long (a + (v / 2))), (8, .int (nI i)), (9, .int (bz (tb sg (nI i))))]) C dX1_worth_77 (by decide) rfl ?_
              refine g_iinc (v := nI (i + 1)) (lv2 := [(0, .int (nI n)), (1, .int sg), (2, .int (bz (tb sg 0))), (3, .int (bz (r && (tb sg (nI i) == tb sg 0)))), (4, .long (v / 2)), (6, .long (a + (v / 2))), (8, .int (nI (i + 1))), (9, .int (bz (tb sg (nI i))))]) C dX1_worth_79 rfl (nI_inc i) (by decide) rfl ?_
              refine g_goto (tgt := 19) C dX1_worth_82 (by decide) ?_
              exact g_lvs [0, 1, 2, 3, 4, 5, 6] rfl (ihlp (i + 1) _ _ _ (nlt c22_1 hn (by omega)) (by omega) (by have h := wst_s hlp2 c50_2 c65_4; simp only [cond_true, cond_false] at h; exact h))
        refine g_iload_n (i := 3) C dX1_worth_33 rfl rfl ?_
        refine g_bz_eq (tgt := 47) C dX1_worth_34 (by decide) (fun c34_5 => ?_) (fun c34_5 => ?_)
        · skip
          refine g_iconst (v := 0) C dX1_worth_47 (by decide) ?_
          exact g_eqi (by simp [bz, c34_5]) j48
        · skip
          refine g_iload C dX1_worth_37 rfl ?_
          refine g_iload_n (i := 2) C dX1_worth_39 rfl rfl ?_
          refine g_bzcmp_ne (tgt := 47) C dX1_worth_40 (by decide) (fun c40_6 => ?_) (fun c40_6 => ?_)
          · skip
            refine g_iconst (v := 0) C dX1_worth_47 (by decide) ?_
            exact g_eqi (by simp [bz, c34_5, c40_6]) j48
          · skip
            refine g_iconst (v := 1) C dX1_worth_43 (by decide) ?_
            refine g_goto (tgt := 48) C dX1_worth_44 (by decide) ?_
            exact g_eqi (by simp [bz, c34_5, c40_6]) j48
  exact g_lvs [0, 1, 2, 3, 4, 5, 6] rfl (lp (n + 1) 0 true 8388608 0 (Nat.zero_le _) (by omega) rfl)

set_option maxHeartbeats 600000 in
set_option maxRecDepth 100000 in
theorem kX2_worth (K : KT) (Wd : va_W) (sg : Int32) (n : Nat) (hn : n < 2 ^ 31) : ∀ lau : Launch, Con lau yX2_worth cX2_worth 9 (some .long) 0 0 K Wd (fun _ : Unit => Wd) [.int sg, .int (nI n)] (some (.long (wM sg n))) := by
  refine conL (by decide) (Nat.le_of_ble_eq_true rfl) (fun E C hR => ?_)
  show G E K 0 0 Wd [(0, .int sg), (1, .int (nI n))] 0 []
  refine g_lconst (v := 0) C dX2_worth_0 (by decide) ?_
  refine g_lstore_n (i := 2) (lv2 := [(0, .int sg), (1, .int (nI n)), (2, .long 0)]) C dX2_worth_1 rfl (by decide) rfl ?_
  refine g_ldc2 (v := 16777216) C dX2_worth_2 kc_X2_36 ?_
  refine g_lstore (lv2 := [(0, .int sg), (1, .int (nI n)), (2, .long 0), (4, .long 16777216)]) C dX2_worth_5 (by decide) rfl ?_
  refine g_iconst (v := 1) C dX2_worth_7 (by decide) ?_
  refine g_istore (lv2 := [(0, .int sg), (1, .int (nI n)), (2, .long 0), (4, .long 16777216), (6, .int 1)]) C dX2_worth_8 (by decide) rfl ?_
  refine g_iconst (v := 0) C dX2_worth_10 (by decide) ?_
  refine g_istore (lv2 := [(0, .int sg), (1, .int (nI n)), (2, .long 0), (4, .long 16777216), (6, .int 1), (7, .int 0)]) C dX2_worth_11 (by decide) rfl ?_
  have lp : ∀ (fuel : Nat) (i : Nat) (r : Bool) (v a : Int64), i ≤ n → n < i + fuel → wst (bt sg) 16777216 i = (r, v, a) → G E K 0 0 Wd [(0, .int sg), (1, .int (nI n)), (2, .long a), (4, .long v), (6, .int (bz r)), (7, .int (nI i))] 13 [] := by
    intro fuel
    induction fuel with
    | zero =>
      intro i r v a hlp0 hlp1 hlp2
      omega
    | succ fuel ihlp =>
      intro i r v a hlp0 hlp1 hlp2
      refine g_iload C dX2_worth_13 rfl ?_
      refine g_iload_n (i := 1) C dX2_worth_15 rfl rfl ?_
      refine g_icmp_ge (tgt := 106) C dX2_worth_16 (by decide) (fun c16_1 => ?_) (fun c16_1 => ?_)
      · skip
        refine g_lload_n (i := 2) C dX2_worth_106 rfl rfl ?_
        exact hR _ _ _ _ () dX2_worth_107 (by have e : i = n := Nat.le_antisymm hlp0 (nle c16_1 hn (by omega)); subst e; simp [wM, hlp2]) (rfl)
      · skip
        refine g_iload_n (i := 0) C dX2_worth_19 rfl rfl ?_
        refine g_iload C dX2_worth_20 rfl ?_
        refine g_ishr C dX2_worth_22 ?_
        refine g_iconst (v := 1) C dX2_worth_23 (by decide) ?_
        refine g_iand C dX2_worth_24 ?_
        refine g_iconst (v := 1) C dX2_worth_25 (by decide) ?_
        refine g_dia_icmp_ne (tgt := 33) C dX2_worth_26 dX2_worth_29 dX2_worth_30 dX2_worth_33 (by decide) (by decide) trivial ?_
        refine g_eqi (congrArg bz (tbS sg (nI i))) ?_
        refine g_istore (lv2 := [(0, .int sg), (1, .int (nI n)), (2, .long a), (4, .long v), (6, .int (bz r)), (7, .int (nI i)), (8, .int (bz (tb sg (nI i))))]) C dX2_worth_34 (by decide) rfl ?_
        have j63 : G E K 0 0 Wd [(0, .int sg), (1, .int (nI n)), (2, .long a), (4, .long v), (6, .int (bz r)), (7, .int (nI i)), (8, .int (bz (tb sg (nI i))))] 63 [.int (bz (r && (tb sg (nI i) == tb sg 0)))] := by
          refine g_istore (lv2 := [(0, .int sg), (1, .int (nI n)), (2, .long a), (4, .long v), (6, .int (bz (r && (tb sg (nI i) == tb sg 0)))), (7, .int (nI i)), (8, .int (bz (tb sg (nI i))))]) C dX2_worth_63 (by decide) rfl ?_
          refine g_iload C dX2_worth_65 rfl ?_
          refine g_bz_eq (tgt := 76) C dX2_worth_67 (by decide) (fun c67_2 => ?_) (fun c67_2 => ?_)
          · skip
            refine g_lload C dX2_worth_76 rfl ?_
            refine g_ldc2 (v := 2) C dX2_worth_78 kc_X2_38 ?_
            refine g_ldiv C dX2_worth_81 (by decide) ?_
            refine g_lstore (lv2 := [(0, .int sg), (1, .int (nI n)), (2, .long a), (4, .long (v / 2)), (6, .int (bz (r && (tb sg (nI i) == tb sg 0)))), (7, .int (nI i)), (8, .int (bz (tb sg (nI i))))]) C dX2_worth_82 (by decide) rfl ?_
            refine g_lload_n (i := 2) C dX2_worth_84 rfl rfl ?_
            refine g_iload C dX2_worth_85 rfl ?_
            refine g_bz_eq (tgt := 95) C dX2_worth_87 (by decide) (fun c87_3 => ?_) (fun c87_3 => ?_)
            · skip
              refine g_lload C dX2_worth_95 rfl ?_
              refine g_lneg C dX2_worth_97 ?_
              refine g_ladd C dX2_worth_98 ?_
              refine g_lstore_n (i := 2) (lv2 := [(0, .int sg), (1, .int (nI n)), (2, .long (a + (-(v / 2)))), (4, .long (v / 2)), (6, .int (bz (r && (tb sg (nI i) == tb sg 0)))), (7, .int (nI i)), (8, .int (bz (tb sg (nI i))))]) C dX2_worth_99 rfl (by decide) rfl ?_
              refine g_iinc (v := nI (i + 1)) (lv2 := [(0, .int sg), (1, .int (nI n)), (2, .long (a + (-(v / 2)))), (4, .long (v / 2)), (6, .int (bz (r && (tb sg (nI i) == tb sg 0)))), (7, .int (nI (i + 1))), (8, .int (bz (tb sg (nI i))))]) C dX2_worth_100 rfl (nI_inc i) (by decide) rfl ?_
              refine g_goto (tgt := 13) C dX2_worth_103 (by decide) ?_
              exact g_lvs [0, 1, 2, 3, 4, 5] rfl (ihlp (i + 1) _ _ _ (nlt c16_1 hn (by omega)) (by omega) (by have h := wst_sM hlp2 c67_2 c87_3; simp only [cond_true, cond_false] at h; exact h))
            · skip
              refine g_lload C dX2_worth_90 rfl ?_
              refine g_goto (tgt := 98) C dX2_worth_92 (by decide) ?_
              refine g_ladd C dX2_worth_98 ?_
              refine g_lstore_n (i := 2) (lv2 := [(0, .int sg), (1, .int (nI n)), (2, .long (a + (v / 2))), (4, .long (v / 2)), (6, .int (bz (r && (tb sg (nI i) == tb sg 0)))), (7, .int (nI i)), (8, .int (bz (tb sg (nI i))))]) C dX2_worth_99 rfl (by decide) rfl ?_
              refine g_iinc (v := nI (i + 1)) (lv2 := [(0, .int sg), (1, .int (nI n)), (2, .long (a + (v / 2))), (4, .long (v / 2)), (6, .int (bz (r && (tb sg (nI i) == tb sg 0)))), (7, .int (nI (i + 1))), (8, .int (bz (tb sg (nI i))))]) C dX2_worth_100 rfl (nI_inc i) (by decide) rfl ?_
              refine g_goto (tgt := 13) C dX2_worth_103 (by decide) ?_
              exact g_lvs [0, 1, 2, 3, 4, 5] rfl (ihlp (i + 1) _ _ _ (nlt c16_1 hn (by omega)) (by omega) (by have h := wst_sM hlp2 c67_2 c87_3; simp only [cond_true, cond_false] at h; exact h))
          · skip
            refine g_ldc2 (v := 16777216) C dX2_worth_70 kc_X2_36 ?_
            refine g_goto (tgt := 82) C dX2_worth_73 (by decide) ?_
            refine g_lstore (lv2 := [(0, .int sg), (1, .int (nI n)), (2, .long a), (4, .long 16777216), (6, .int (bz (r && (tb sg (nI i) == tb sg 0)))), (7, .int (nI i)), (8, .int (bz (tb sg (nI i))))]) C dX2_worth_82 (by decide) rfl ?_
            refine g_lload_n (i := 2) C dX2_worth_84 rfl rfl ?_
            refine g_iload C dX2_worth_85 rfl ?_
            refine g_bz_eq (tgt := 95) C dX2_worth_87 (by decide) (fun c87_4 => ?_) (fun c87_4 => ?_)
            · skip
              refine g_lload C dX2_worth_95 rfl ?_
              refine g_lneg C dX2_worth_97 ?_
              refine g_ladd C dX2_worth_98 ?_
              refine g_lstore_n (i := 2) (lv2 := [(0, .int sg), (1, .int (nI n)), (2, .long (a + (-16777216))), (4, .long 16777216), (6, .int (bz (r && (tb sg (nI i) == tb sg 0)))), (7, .int (nI i)), (8, .int (bz (tb sg (nI i))))]) C dX2_worth_99 rfl (by decide) rfl ?_
              refine g_iinc (v := nI (i + 1)) (lv2 := [(0, .int sg), (1, .int (nI n)), (2, .long (a + (-16777216))), (4, .long 16777216), (6, .int (bz (r && (tb sg (nI i) == tb sg 0)))), (7, .int (nI (i + 1))), (8, .int (bz (tb sg (nI i))))]) C dX2_worth_100 rfl (nI_inc i) (by decide) rfl ?_
              refine g_goto (tgt := 13) C dX2_worth_103 (by decide) ?_
              exact g_lvs [0, 1, 2, 3, 4, 5] rfl (ihlp (i + 1) _ _ _ (nlt c16_1 hn (by omega)) (by omega) (by have h := wst_sM hlp2 c67_2 c87_4; simp only [cond_true, cond_false] at h; exact h))
            · skip
              refine g_lload C dX2_worth_90 rfl ?_
              refine g_goto (tgt := 98) C dX2_worth_92 (by decide) ?_
              refine g_ladd C dX2_worth_98 ?_
              refine g_lstore_n (i := 2) (lv2 := [(0, .int sg), (1, .int (nI n)), (2, .long (a + 16777216)), (4, .long 16777216), (6, .int (bz (r && (tb sg (nI i) == tb sg 0)))), (7, .int (nI i)), (8, .int (bz (tb sg (nI i))))]) C dX2_worth_99 rfl (by decide) rfl ?_
              refine g_iinc (v := nI (i + 1)) (lv2 := [(0, .int sg), (1, .int (nI n)), (2, .long (a + 16777216)), (4, .long 16777216), (6, .int (bz (r && (tb sg (nI i) == tb sg 0)))), (7, .int (nI (i + 1))), (8, .int (bz (tb sg (nI i))))]) C dX2_worth_100 rfl (nI_inc i) (by decide) rfl ?_
              refine g_goto (tgt := 13) C dX2_worth_103 (by decide) ?_
              exact g_lvs [0, 1, 2, 3, 4, 5] rfl (ihlp (i + 1) _ _ _ (nlt c16_1 hn (by omega)) (by omega) (by have h := wst_sM hlp2 c67_2 c87_4; simp only [cond_true, cond_false] at h; exact h))
        refine g_iload C dX2_worth_36 rfl ?_
        refine g_bz_eq (tgt := 62) C dX2_worth_38 (by decide) (fun c38_5 => ?_) (fun c38_5 => ?_)
        · skip
          refine g_iconst (v := 0) C dX2_worth_62 (by decide) ?_
          exact g_eqi (by simp [bz, c38_5]) j63
        · skip
          refine g_iload C dX2_worth_41 rfl ?_
          refine g_iload_n (i := 0) C dX2_worth_43 rfl rfl ?_
          refine g_iconst (v := 1) C dX2_worth_44 (by decide) ?_
          refine g_iand C dX2_worth_45 ?_
          refine g_iconst (v := 1) C dX2_worth_46 (by decide) ?_
          refine g_dia_icmp_ne (tgt := 54) C dX2_worth_47 dX2_worth_50 dX2_worth_51 dX2_worth_54 (by decide) (by decide) trivial ?_
          refine g_eqi (congrArg bz (tb0 sg)) ?_
          refine g_bzcmp_ne (tgt := 62) C dX2_worth_55 (by decide) (fun c55_6 => ?_) (fun c55_6 => ?_)
          · skip
            refine g_iconst (v := 0) C dX2_worth_62 (by decide) ?_
            exact g_eqi (by simp [bz, c38_5, c55_6]) j63
          · skip
            refine g_iconst (v := 1) C dX2_worth_58 (by decide) ?_
            refine g_goto (tgt := 63) C dX2_worth_59 (by decide) ?_
            exact g_eqi (by simp [bz, c38_5, c55_6]) j63
  exact g_lvs [0, 1, 2, 3, 4, 5] rfl (lp (n + 1) 0 true 16777216 0 (Nat.zero_le _) (by omega) rfl)
