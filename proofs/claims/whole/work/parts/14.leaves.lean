/-! pure words for what the leaves answer -/
theorem nI_inc (n : Nat) : nI n + Int32.ofInt 1 = nI (n + 1) := (nI_succ n).symm
def ushrI (x y : Int32) : Int32 := (x.toUInt32 >>> (y.toUInt32 &&& Int32.toUInt32 31)).toInt32
def shlL (x : Int64) (y : Int32) : Int64 := x <<< (y.toInt64 &&& 63)
def shrL (x : Int64) (y : Int32) : Int64 := x >>> (y.toInt64 &&& 63)
def ushrL (x : Int64) (y : Int32) : Int64 := (x.toUInt64 >>> (y.toInt64.toUInt64 &&& Int64.toUInt64 63)).toInt64
def isReg (x : Int32) : Bool := !decide (x < 0) && !decide (12 ≤ x)
def isSm (x : Int32) : Bool := !decide (x < 0) && !decide (8 ≤ x)
def isLd (x : Int32) : Bool := !decide (x < 0) && !decide (20 < x)
def isEx (x : Int32) : Bool := !decide (x < -6) && !decide (6 < x)
def isFr (x y : Int32) : Bool := !decide (x < -1000000000) && !decide (1000000000 < x) && !decide (y < 0) && !decide (20 < y)
def areRg (x : Int32) : Bool := decide (ushrI x 12 = 0)
def tb (x y : Int32) : Bool := decide (ushrI x y &&& 1 = 1)
def lowB (x : Int32) : Int32 := (1 <<< (x &&& 31)) - 1
def sgnO (x : Int64) : Int32 := if x = 0 then 0 else if x < 0 then -1 else 1
def inL (x y z : Int64) : Bool := !decide (x < y) && !decide (z < x)
def cmpL (x y : Int64) : Int32 := if y ≤ x then bz (decide (y < x)) else -1
def sizM (x y : Int32) : Int32 := if y < x then 0 else (1 <<< ((y - x + 1) &&& 31)) - 1
def bcL1 (x : Int64) : Int64 := x - (ushrL x 1 &&& 6148914691236517205)
def bcL2 (x : Int64) : Int64 := (x &&& 3689348814741910323) + (ushrL x 2 &&& 3689348814741910323)
def bcL3 (x : Int64) : Int64 := (x + ushrL x 4) &&& 1085102592571150095
def bcL4 (x : Int64) : Int64 := x + ushrL x 8
def bcL5 (x : Int64) : Int64 := x + ushrL x 16
def bcL6 (x : Int64) : Int64 := x + ushrL x 32
def bcL (x : Int64) : Int32 := (bcL6 (bcL5 (bcL4 (bcL3 (bcL2 (bcL1 x)))))).toInt32 &&& 127
def bcI1 (x : Int32) : Int32 := x - (ushrI x 1 &&& 1431655765)
def bcI2 (x : Int32) : Int32 := (x &&& 858993459) + (ushrI x 2 &&& 858993459)
def bcI3 (x : Int32) : Int32 := (x + ushrI x 4) &&& 252645135
def bcI4 (x : Int32) : Int32 := x + ushrI x 8
def bcI5 (x : Int32) : Int32 := x + ushrI x 16
def bcI (x : Int32) : Int32 := bcI5 (bcI4 (bcI3 (bcI2 (bcI1 x)))) &&& 63
def absL (x : Int64) : Int64 := if 0 < x then x else -x
def isP2 (x : Int64) : Bool := decide (bcL (absL x) = 1)
def halv (x : Int64) : Int32 := bcL ((x &&& -x) - 1)
def maxI (x y : Int32) : Int32 := if x < y then y else x
def lBel (x : Int64) (y : Int32) : Int32 := maxI 0 (y - halv x)
def lAbo (x : Int64) (y : Int32) : Int32 := (shrL x (y - lBel x y)).toInt32
def facO (x : Int64) (y : Int32) : Int64 := if 20 < lBel x y then 1152921504606846976 else if shrL x (y - lBel x y) < -1000000000 then 1152921504606846976 else if shrL x (y - lBel x y) ≤ 1000000000 then shlL (shrL x (y - lBel x y)) (20 - lBel x y) else 1152921504606846976
def facP (x y : Int64) : Int64 := facO ((lAbo x 20).toInt64 * (lAbo y 20).toInt64) (lBel x 20 + lBel y 20)
def facQ (x y : Int64) : Int64 := if 0 ≤ y then facO x (halv y) else facO (-x) (halv y)
theorem i64lt (a b : Int32) : a.toInt64 < b.toInt64 ↔ a < b := by
  rw [Int64.lt_iff_toInt_lt, Int32.lt_iff_toInt_lt, Int32.toInt_toInt64, Int32.toInt_toInt64]
theorem inL_gen (x lo hi : Int32) {a b : Int64} (ha : lo.toInt64 = a) (hb : hi.toInt64 = b) : inL x.toInt64 a b = (!decide (x < lo) && !decide (hi < x)) := by
  subst ha hb
  unfold inL
  rw [show decide (x.toInt64 < lo.toInt64) = decide (x < lo) from decide_eq_decide.mpr (i64lt _ _), show decide (hi.toInt64 < x.toInt64) = decide (hi < x) from decide_eq_decide.mpr (i64lt _ _)]
theorem lt_le12 (x : Int32) : decide ((11 : Int32) < x) = decide ((12 : Int32) ≤ x) := decide_eq_decide.mpr (by
  rw [Int32.lt_iff_toInt_lt, Int32.le_iff_toInt_le]
  have e1 : (11 : Int32).toInt = 11 := rfl
  have e2 : (12 : Int32).toInt = 12 := rfl
  omega)
theorem lt_le8 (x : Int32) : decide ((7 : Int32) < x) = decide ((8 : Int32) ≤ x) := decide_eq_decide.mpr (by
  rw [Int32.lt_iff_toInt_lt, Int32.le_iff_toInt_le]
  have e1 : (7 : Int32).toInt = 7 := rfl
  have e2 : (8 : Int32).toInt = 8 := rfl
  omega)
theorem inL_reg (x : Int32) : inL (Int32.toInt64 x) 0 11 = isReg x := by
  rw [inL_gen x 0 11 (a := 0) (b := 11) rfl rfl, lt_le12]; rfl
theorem inL_sm (x : Int32) : inL (Int32.toInt64 x) 0 7 = isSm x := by
  rw [inL_gen x 0 7 (a := 0) (b := 7) rfl rfl, lt_le8]; rfl
theorem g_dia_icmp_eq {E : EnvT} {K : KT} {cc : ByteArray} {own : String} {nL : Nat} {R : Room} {kc ks : Nat} {Wd : va_W} {lv : List (Nat × Value)} {pc : Nat} {st : List Value} {x y : Int32} {off off2 : Int} {tgt : Nat} (C : Ok E K cc own nL R) (d : decode cc pc = .ok (.if_icmp .eq off, 3)) (d3 : decode cc (pc + 3) = .ok (.iconst 1, 1)) (d4 : decode cc (pc + 3 + 1) = .ok (.goto off2, 3)) (d5 : decode cc tgt = .ok (.iconst 0, 1)) (ht : (pc : Int) + off = (tgt : Int)) (ht2 : ((pc + 3 + 1 : Nat) : Int) + off2 = ((tgt + 1 : Nat) : Int)) (_hx : True) (k : G E K kc ks Wd lv (tgt + 1) (.int (bz (decide (¬ x = y))) :: st)) : G E K kc ks Wd lv pc (.int y :: .int x :: st) := by
  refine g_icmp_eq C d ht (fun q => ?_) (fun q => ?_)
  · refine g_iconst (v := 0) C d5 (by decide) ?_
    rw [show bz (decide (¬ x = y)) = 0 from bz_0.mpr (decide_eq_false (fun z => z q))] at k
    exact k
  · refine g_iconst (v := 1) C d3 (by decide) ?_
    refine g_goto C d4 ht2 ?_
    rw [show bz (decide (¬ x = y)) = 1 from congrArg bz (decide_eq_true (q))] at k
    exact k
theorem g_dia_lcmp_eq {E : EnvT} {K : KT} {cc : ByteArray} {own : String} {nL : Nat} {R : Room} {kc ks : Nat} {Wd : va_W} {lv : List (Nat × Value)} {pc : Nat} {st : List Value} {x y : Int64} {off off2 : Int} {tgt : Nat} (C : Ok E K cc own nL R) (d : decode cc pc = .ok (.lcmp, 1)) (d2 : decode cc (pc + 1) = .ok (.ifCond .eq off, 3)) (d3 : decode cc (pc + 1 + 3) = .ok (.iconst 1, 1)) (d4 : decode cc (pc + 1 + 3 + 1) = .ok (.goto off2, 3)) (d5 : decode cc tgt = .ok (.iconst 0, 1)) (ht : ((pc + 1 : Nat) : Int) + off = (tgt : Int)) (ht2 : ((pc + 1 + 3 + 1 : Nat) : Int) + off2 = ((tgt + 1 : Nat) : Int)) (_hx : True) (k : G E K kc ks Wd lv (tgt + 1) (.int (bz (decide (¬ x = y))) :: st)) : G E K kc ks Wd lv pc (.long y :: .long x :: st) := by
  refine g_lcmp_eq C d d2 ht (fun q => ?_) (fun q => ?_)
  · refine g_iconst (v := 0) C d5 (by decide) ?_
    rw [show bz (decide (¬ x = y)) = 0 from bz_0.mpr (decide_eq_false (fun z => z q))] at k
    exact k
  · refine g_iconst (v := 1) C d3 (by decide) ?_
    refine g_goto C d4 ht2 ?_
    rw [show bz (decide (¬ x = y)) = 1 from congrArg bz (decide_eq_true (q))] at k
    exact k
theorem g_dia_if_eq {E : EnvT} {K : KT} {cc : ByteArray} {own : String} {nL : Nat} {R : Room} {kc ks : Nat} {Wd : va_W} {lv : List (Nat × Value)} {pc : Nat} {st : List Value} {x : Int32} {off off2 : Int} {tgt : Nat} (C : Ok E K cc own nL R) (d : decode cc pc = .ok (.ifCond .eq off, 3)) (d3 : decode cc (pc + 3) = .ok (.iconst 1, 1)) (d4 : decode cc (pc + 3 + 1) = .ok (.goto off2, 3)) (d5 : decode cc tgt = .ok (.iconst 0, 1)) (ht : (pc : Int) + off = (tgt : Int)) (ht2 : ((pc + 3 + 1 : Nat) : Int) + off2 = ((tgt + 1 : Nat) : Int)) (_hx : True) (k : G E K kc ks Wd lv (tgt + 1) (.int (bz (decide (¬ x = 0))) :: st)) : G E K kc ks Wd lv pc (.int x :: st) := by
  refine g_if_eq C d ht (fun q => ?_) (fun q => ?_)
  · refine g_iconst (v := 0) C d5 (by decide) ?_
    rw [show bz (decide (¬ x = 0)) = 0 from bz_0.mpr (decide_eq_false (fun z => z q))] at k
    exact k
  · refine g_iconst (v := 1) C d3 (by decide) ?_
    refine g_goto C d4 ht2 ?_
    rw [show bz (decide (¬ x = 0)) = 1 from congrArg bz (decide_eq_true (q))] at k
    exact k
theorem g_dia_icmp_ne {E : EnvT} {K : KT} {cc : ByteArray} {own : String} {nL : Nat} {R : Room} {kc ks : Nat} {Wd : va_W} {lv : List (Nat × Value)} {pc : Nat} {st : List Value} {x y : Int32} {off off2 : Int} {tgt : Nat} (C : Ok E K cc own nL R) (d : decode cc pc = .ok (.if_icmp .ne off, 3)) (d3 : decode cc (pc + 3) = .ok (.iconst 1, 1)) (d4 : decode cc (pc + 3 + 1) = .ok (.goto off2, 3)) (d5 : decode cc tgt = .ok (.iconst 0, 1)) (ht : (pc : Int) + off = (tgt : Int)) (ht2 : ((pc + 3 + 1 : Nat) : Int) + off2 = ((tgt + 1 : Nat) : Int)) (_hx : True) (k : G E K kc ks Wd lv (tgt + 1) (.int (bz (decide (x = y))) :: st)) : G E K kc ks Wd lv pc (.int y :: .int x :: st) := by
  refine g_icmp_ne C d ht (fun q => ?_) (fun q => ?_)
  · refine g_iconst (v := 0) C d5 (by decide) ?_
    rw [show bz (decide (x = y)) = 0 from bz_0.mpr (decide_eq_false (q))] at k
    exact k
  · refine g_iconst (v := 1) C d3 (by decide) ?_
    refine g_goto C d4 ht2 ?_
    rw [show bz (decide (x = y)) = 1 from congrArg bz (decide_eq_true (q))] at k
    exact k
theorem g_dia_lcmp_ne {E : EnvT} {K : KT} {cc : ByteArray} {own : String} {nL : Nat} {R : Room} {kc ks : Nat} {Wd : va_W} {lv : List (Nat × Value)} {pc : Nat} {st : List Value} {x y : Int64} {off off2 : Int} {tgt : Nat} (C : Ok E K cc own nL R) (d : decode cc pc = .ok (.lcmp, 1)) (d2 : decode cc (pc + 1) = .ok (.ifCond .ne off, 3)) (d3 : decode cc (pc + 1 + 3) = .ok (.iconst 1, 1)) (d4 : decode cc (pc + 1 + 3 + 1) = .ok (.goto off2, 3)) (d5 : decode cc tgt = .ok (.iconst 0, 1)) (ht : ((pc + 1 : Nat) : Int) + off = (tgt : Int)) (ht2 : ((pc + 1 + 3 + 1 : Nat) : Int) + off2 = ((tgt + 1 : Nat) : Int)) (_hx : True) (k : G E K kc ks Wd lv (tgt + 1) (.int (bz (decide (x = y))) :: st)) : G E K kc ks Wd lv pc (.long y :: .long x :: st) := by
  refine g_lcmp_ne C d d2 ht (fun q => ?_) (fun q => ?_)
  · refine g_iconst (v := 0) C d5 (by decide) ?_
    rw [show bz (decide (x = y)) = 0 from bz_0.mpr (decide_eq_false (q))] at k
    exact k
  · refine g_iconst (v := 1) C d3 (by decide) ?_
    refine g_goto C d4 ht2 ?_
    rw [show bz (decide (x = y)) = 1 from congrArg bz (decide_eq_true (q))] at k
    exact k
theorem g_dia_if_ne {E : EnvT} {K : KT} {cc : ByteArray} {own : String} {nL : Nat} {R : Room} {kc ks : Nat} {Wd : va_W} {lv : List (Nat × Value)} {pc : Nat} {st : List Value} {x : Int32} {off off2 : Int} {tgt : Nat} (C : Ok E K cc own nL R) (d : decode cc pc = .ok (.ifCond .ne off, 3)) (d3 : decode cc (pc + 3) = .ok (.iconst 1, 1)) (d4 : decode cc (pc + 3 + 1) = .ok (.goto off2, 3)) (d5 : decode cc tgt = .ok (.iconst 0, 1)) (ht : (pc : Int) + off = (tgt : Int)) (ht2 : ((pc + 3 + 1 : Nat) : Int) + off2 = ((tgt + 1 : Nat) : Int)) (_hx : True) (k : G E K kc ks Wd lv (tgt + 1) (.int (bz (decide (x = 0))) :: st)) : G E K kc ks Wd lv pc (.int x :: st) := by
  refine g_if_ne C d ht (fun q => ?_) (fun q => ?_)
  · refine g_iconst (v := 0) C d5 (by decide) ?_
    rw [show bz (decide (x = 0)) = 0 from bz_0.mpr (decide_eq_false (q))] at k
    exact k
  · refine g_iconst (v := 1) C d3 (by decide) ?_
    refine g_goto C d4 ht2 ?_
    rw [show bz (decide (x = 0)) = 1 from congrArg bz (decide_eq_true (q))] at k
    exact k
theorem g_dia_icmp_lt {E : EnvT} {K : KT} {cc : ByteArray} {own : String} {nL : Nat} {R : Room} {kc ks : Nat} {Wd : va_W} {lv : List (Nat × Value)} {pc : Nat} {st : List Value} {x y : Int32} {off off2 : Int} {tgt : Nat} (C : Ok E K cc own nL R) (d : decode cc pc = .ok (.if_icmp .lt off, 3)) (d3 : decode cc (pc + 3) = .ok (.iconst 1, 1)) (d4 : decode cc (pc + 3 + 1) = .ok (.goto off2, 3)) (d5 : decode cc tgt = .ok (.iconst 0, 1)) (ht : (pc : Int) + off = (tgt : Int)) (ht2 : ((pc + 3 + 1 : Nat) : Int) + off2 = ((tgt + 1 : Nat) : Int)) (_hx : True) (k : G E K kc ks Wd lv (tgt + 1) (.int (bz (decide (y ≤ x))) :: st)) : G E K kc ks Wd lv pc (.int y :: .int x :: st) := by
  refine g_icmp_lt C d ht (fun q => ?_) (fun q => ?_)
  · refine g_iconst (v := 0) C d5 (by decide) ?_
    rw [show bz (decide (y ≤ x)) = 0 from bz_0.mpr (decide_eq_false (Int32.not_le.mpr q))] at k
    exact k
  · refine g_iconst (v := 1) C d3 (by decide) ?_
    refine g_goto C d4 ht2 ?_
    rw [show bz (decide (y ≤ x)) = 1 from congrArg bz (decide_eq_true (Int32.not_lt.mp q))] at k
    exact k
theorem g_dia_lcmp_lt {E : EnvT} {K : KT} {cc : ByteArray} {own : String} {nL : Nat} {R : Room} {kc ks : Nat} {Wd : va_W} {lv : List (Nat × Value)} {pc : Nat} {st : List Value} {x y : Int64} {off off2 : Int} {tgt : Nat} (C : Ok E K cc own nL R) (d : decode cc pc = .ok (.lcmp, 1)) (d2 : decode cc (pc + 1) = .ok (.ifCond .lt off, 3)) (d3 : decode cc (pc + 1 + 3) = .ok (.iconst 1, 1)) (d4 : decode cc (pc + 1 + 3 + 1) = .ok (.goto off2, 3)) (d5 : decode cc tgt = .ok (.iconst 0, 1)) (ht : ((pc + 1 : Nat) : Int) + off = (tgt : Int)) (ht2 : ((pc + 1 + 3 + 1 : Nat) : Int) + off2 = ((tgt + 1 : Nat) : Int)) (_hx : True) (k : G E K kc ks Wd lv (tgt + 1) (.int (bz (decide (y ≤ x))) :: st)) : G E K kc ks Wd lv pc (.long y :: .long x :: st) := by
  refine g_lcmp_lt C d d2 ht (fun q => ?_) (fun q => ?_)
  · refine g_iconst (v := 0) C d5 (by decide) ?_
    rw [show bz (decide (y ≤ x)) = 0 from bz_0.mpr (decide_eq_false (Int64.not_le.mpr q))] at k
    exact k
  · refine g_iconst (v := 1) C d3 (by decide) ?_
    refine g_goto C d4 ht2 ?_
    rw [show bz (decide (y ≤ x)) = 1 from congrArg bz (decide_eq_true (Int64.not_lt.mp q))] at k
    exact k
theorem g_dia_if_lt {E : EnvT} {K : KT} {cc : ByteArray} {own : String} {nL : Nat} {R : Room} {kc ks : Nat} {Wd : va_W} {lv : List (Nat × Value)} {pc : Nat} {st : List Value} {x : Int32} {off off2 : Int} {tgt : Nat} (C : Ok E K cc own nL R) (d : decode cc pc = .ok (.ifCond .lt off, 3)) (d3 : decode cc (pc + 3) = .ok (.iconst 1, 1)) (d4 : decode cc (pc + 3 + 1) = .ok (.goto off2, 3)) (d5 : decode cc tgt = .ok (.iconst 0, 1)) (ht : (pc : Int) + off = (tgt : Int)) (ht2 : ((pc + 3 + 1 : Nat) : Int) + off2 = ((tgt + 1 : Nat) : Int)) (_hx : True) (k : G E K kc ks Wd lv (tgt + 1) (.int (bz (decide (0 ≤ x))) :: st)) : G E K kc ks Wd lv pc (.int x :: st) := by
  refine g_if_lt C d ht (fun q => ?_) (fun q => ?_)
  · refine g_iconst (v := 0) C d5 (by decide) ?_
    rw [show bz (decide (0 ≤ x)) = 0 from bz_0.mpr (decide_eq_false (Int32.not_le.mpr q))] at k
    exact k
  · refine g_iconst (v := 1) C d3 (by decide) ?_
    refine g_goto C d4 ht2 ?_
    rw [show bz (decide (0 ≤ x)) = 1 from congrArg bz (decide_eq_true (Int32.not_lt.mp q))] at k
    exact k
theorem g_dia_icmp_ge {E : EnvT} {K : KT} {cc : ByteArray} {own : String} {nL : Nat} {R : Room} {kc ks : Nat} {Wd : va_W} {lv : List (Nat × Value)} {pc : Nat} {st : List Value} {x y : Int32} {off off2 : Int} {tgt : Nat} (C : Ok E K cc own nL R) (d : decode cc pc = .ok (.if_icmp .ge off, 3)) (d3 : decode cc (pc + 3) = .ok (.iconst 1, 1)) (d4 : decode cc (pc + 3 + 1) = .ok (.goto off2, 3)) (d5 : decode cc tgt = .ok (.iconst 0, 1)) (ht : (pc : Int) + off = (tgt : Int)) (ht2 : ((pc + 3 + 1 : Nat) : Int) + off2 = ((tgt + 1 : Nat) : Int)) (_hx : True) (k : G E K kc ks Wd lv (tgt + 1) (.int (bz (decide (x < y))) :: st)) : G E K kc ks Wd lv pc (.int y :: .int x :: st) := by
  refine g_icmp_ge C d ht (fun q => ?_) (fun q => ?_)
  · refine g_iconst (v := 0) C d5 (by decide) ?_
    rw [show bz (decide (x < y)) = 0 from bz_0.mpr (decide_eq_false (Int32.not_lt.mpr q))] at k
    exact k
  · refine g_iconst (v := 1) C d3 (by decide) ?_
    refine g_goto C d4 ht2 ?_
    rw [show bz (decide (x < y)) = 1 from congrArg bz (decide_eq_true (Int32.not_le.mp q))] at k
    exact k
theorem g_dia_lcmp_ge {E : EnvT} {K : KT} {cc : ByteArray} {own : String} {nL : Nat} {R : Room} {kc ks : Nat} {Wd : va_W} {lv : List (Nat × Value)} {pc : Nat} {st : List Value} {x y : Int64} {off off2 : Int} {tgt : Nat} (C : Ok E K cc own nL R) (d : decode cc pc = .ok (.lcmp, 1)) (d2 : decode cc (pc + 1) = .ok (.ifCond .ge off, 3)) (d3 : decode cc (pc + 1 + 3) = .ok (.iconst 1, 1)) (d4 : decode cc (pc + 1 + 3 + 1) = .ok (.goto off2, 3)) (d5 : decode cc tgt = .ok (.iconst 0, 1)) (ht : ((pc + 1 : Nat) : Int) + off = (tgt : Int)) (ht2 : ((pc + 1 + 3 + 1 : Nat) : Int) + off2 = ((tgt + 1 : Nat) : Int)) (_hx : True) (k : G E K kc ks Wd lv (tgt + 1) (.int (bz (decide (x < y))) :: st)) : G E K kc ks Wd lv pc (.long y :: .long x :: st) := by
  refine g_lcmp_ge C d d2 ht (fun q => ?_) (fun q => ?_)
  · refine g_iconst (v := 0) C d5 (by decide) ?_
    rw [show bz (decide (x < y)) = 0 from bz_0.mpr (decide_eq_false (Int64.not_lt.mpr q))] at k
    exact k
  · refine g_iconst (v := 1) C d3 (by decide) ?_
    refine g_goto C d4 ht2 ?_
    rw [show bz (decide (x < y)) = 1 from congrArg bz (decide_eq_true (Int64.not_le.mp q))] at k
    exact k
theorem g_dia_if_ge {E : EnvT} {K : KT} {cc : ByteArray} {own : String} {nL : Nat} {R : Room} {kc ks : Nat} {Wd : va_W} {lv : List (Nat × Value)} {pc : Nat} {st : List Value} {x : Int32} {off off2 : Int} {tgt : Nat} (C : Ok E K cc own nL R) (d : decode cc pc = .ok (.ifCond .ge off, 3)) (d3 : decode cc (pc + 3) = .ok (.iconst 1, 1)) (d4 : decode cc (pc + 3 + 1) = .ok (.goto off2, 3)) (d5 : decode cc tgt = .ok (.iconst 0, 1)) (ht : (pc : Int) + off = (tgt : Int)) (ht2 : ((pc + 3 + 1 : Nat) : Int) + off2 = ((tgt + 1 : Nat) : Int)) (_hx : True) (k : G E K kc ks Wd lv (tgt + 1) (.int (bz (decide (x < 0))) :: st)) : G E K kc ks Wd lv pc (.int x :: st) := by
  refine g_if_ge C d ht (fun q => ?_) (fun q => ?_)
  · refine g_iconst (v := 0) C d5 (by decide) ?_
    rw [show bz (decide (x < 0)) = 0 from bz_0.mpr (decide_eq_false (Int32.not_lt.mpr q))] at k
    exact k
  · refine g_iconst (v := 1) C d3 (by decide) ?_
    refine g_goto C d4 ht2 ?_
    rw [show bz (decide (x < 0)) = 1 from congrArg bz (decide_eq_true (Int32.not_le.mp q))] at k
    exact k
theorem g_dia_icmp_gt {E : EnvT} {K : KT} {cc : ByteArray} {own : String} {nL : Nat} {R : Room} {kc ks : Nat} {Wd : va_W} {lv : List (Nat × Value)} {pc : Nat} {st : List Value} {x y : Int32} {off off2 : Int} {tgt : Nat} (C : Ok E K cc own nL R) (d : decode cc pc = .ok (.if_icmp .gt off, 3)) (d3 : decode cc (pc + 3) = .ok (.iconst 1, 1)) (d4 : decode cc (pc + 3 + 1) = .ok (.goto off2, 3)) (d5 : decode cc tgt = .ok (.iconst 0, 1)) (ht : (pc : Int) + off = (tgt : Int)) (ht2 : ((pc + 3 + 1 : Nat) : Int) + off2 = ((tgt + 1 : Nat) : Int)) (_hx : True) (k : G E K kc ks Wd lv (tgt + 1) (.int (bz (decide (x ≤ y))) :: st)) : G E K kc ks Wd lv pc (.int y :: .int x :: st) := by
  refine g_icmp_gt C d ht (fun q => ?_) (fun q => ?_)
  · refine g_iconst (v := 0) C d5 (by decide) ?_
    rw [show bz (decide (x ≤ y)) = 0 from bz_0.mpr (decide_eq_false (Int32.not_le.mpr q))] at k
    exact k
  · refine g_iconst (v := 1) C d3 (by decide) ?_
    refine g_goto C d4 ht2 ?_
    rw [show bz (decide (x ≤ y)) = 1 from congrArg bz (decide_eq_true (Int32.not_lt.mp q))] at k
    exact k
theorem g_dia_lcmp_gt {E : EnvT} {K : KT} {cc : ByteArray} {own : String} {nL : Nat} {R : Room} {kc ks : Nat} {Wd : va_W} {lv : List (Nat × Value)} {pc : Nat} {st : List Value} {x y : Int64} {off off2 : Int} {tgt : Nat} (C : Ok E K cc own nL R) (d : decode cc pc = .ok (.lcmp, 1)) (d2 : decode cc (pc + 1) = .ok (.ifCond .gt off, 3)) (d3 : decode cc (pc + 1 + 3) = .ok (.iconst 1, 1)) (d4 : decode cc (pc + 1 + 3 + 1) = .ok (.goto off2, 3)) (d5 : decode cc tgt = .ok (.iconst 0, 1)) (ht : ((pc + 1 : Nat) : Int) + off = (tgt : Int)) (ht2 : ((pc + 1 + 3 + 1 : Nat) : Int) + off2 = ((tgt + 1 : Nat) : Int)) (_hx : True) (k : G E K kc ks Wd lv (tgt + 1) (.int (bz (decide (x ≤ y))) :: st)) : G E K kc ks Wd lv pc (.long y :: .long x :: st) := by
  refine g_lcmp_gt C d d2 ht (fun q => ?_) (fun q => ?_)
  · refine g_iconst (v := 0) C d5 (by decide) ?_
    rw [show bz (decide (x ≤ y)) = 0 from bz_0.mpr (decide_eq_false (Int64.not_le.mpr q))] at k
    exact k
  · refine g_iconst (v := 1) C d3 (by decide) ?_
    refine g_goto C d4 ht2 ?_
    rw [show bz (decide (x ≤ y)) = 1 from congrArg bz (decide_eq_true (Int64.not_lt.mp q))] at k
    exact k
theorem g_dia_if_gt {E : EnvT} {K : KT} {cc : ByteArray} {own : String} {nL : Nat} {R : Room} {kc ks : Nat} {Wd : va_W} {lv : List (Nat × Value)} {pc : Nat} {st : List Value} {x : Int32} {off off2 : Int} {tgt : Nat} (C : Ok E K cc own nL R) (d : decode cc pc = .ok (.ifCond .gt off, 3)) (d3 : decode cc (pc + 3) = .ok (.iconst 1, 1)) (d4 : decode cc (pc + 3 + 1) = .ok (.goto off2, 3)) (d5 : decode cc tgt = .ok (.iconst 0, 1)) (ht : (pc : Int) + off = (tgt : Int)) (ht2 : ((pc + 3 + 1 : Nat) : Int) + off2 = ((tgt + 1 : Nat) : Int)) (_hx : True) (k : G E K kc ks Wd lv (tgt + 1) (.int (bz (decide (x ≤ 0))) :: st)) : G E K kc ks Wd lv pc (.int x :: st) := by
  refine g_if_gt C d ht (fun q => ?_) (fun q => ?_)
  · refine g_iconst (v := 0) C d5 (by decide) ?_
    rw [show bz (decide (x ≤ 0)) = 0 from bz_0.mpr (decide_eq_false (Int32.not_le.mpr q))] at k
    exact k
  · refine g_iconst (v := 1) C d3 (by decide) ?_
    refine g_goto C d4 ht2 ?_
    rw [show bz (decide (x ≤ 0)) = 1 from congrArg bz (decide_eq_true (Int32.not_lt.mp q))] at k
    exact k
theorem g_dia_icmp_le {E : EnvT} {K : KT} {cc : ByteArray} {own : String} {nL : Nat} {R : Room} {kc ks : Nat} {Wd : va_W} {lv : List (Nat × Value)} {pc : Nat} {st : List Value} {x y : Int32} {off off2 : Int} {tgt : Nat} (C : Ok E K cc own nL R) (d : decode cc pc = .ok (.if_icmp .le off, 3)) (d3 : decode cc (pc + 3) = .ok (.iconst 1, 1)) (d4 : decode cc (pc + 3 + 1) = .ok (.goto off2, 3)) (d5 : decode cc tgt = .ok (.iconst 0, 1)) (ht : (pc : Int) + off = (tgt : Int)) (ht2 : ((pc + 3 + 1 : Nat) : Int) + off2 = ((tgt + 1 : Nat) : Int)) (_hx : True) (k : G E K kc ks Wd lv (tgt + 1) (.int (bz (decide (y < x))) :: st)) : G E K kc ks Wd lv pc (.int y :: .int x :: st) := by
  refine g_icmp_le C d ht (fun q => ?_) (fun q => ?_)
  · refine g_iconst (v := 0) C d5 (by decide) ?_
    rw [show bz (decide (y < x)) = 0 from bz_0.mpr (decide_eq_false (Int32.not_lt.mpr q))] at k
    exact k
  · refine g_iconst (v := 1) C d3 (by decide) ?_
    refine g_goto C d4 ht2 ?_
    rw [show bz (decide (y < x)) = 1 from congrArg bz (decide_eq_true (Int32.not_le.mp q))] at k
    exact k
theorem g_dia_lcmp_le {E : EnvT} {K : KT} {cc : ByteArray} {own : String} {nL : Nat} {R : Room} {kc ks : Nat} {Wd : va_W} {lv : List (Nat × Value)} {pc : Nat} {st : List Value} {x y : Int64} {off off2 : Int} {tgt : Nat} (C : Ok E K cc own nL R) (d : decode cc pc = .ok (.lcmp, 1)) (d2 : decode cc (pc + 1) = .ok (.ifCond .le off, 3)) (d3 : decode cc (pc + 1 + 3) = .ok (.iconst 1, 1)) (d4 : decode cc (pc + 1 + 3 + 1) = .ok (.goto off2, 3)) (d5 : decode cc tgt = .ok (.iconst 0, 1)) (ht : ((pc + 1 : Nat) : Int) + off = (tgt : Int)) (ht2 : ((pc + 1 + 3 + 1 : Nat) : Int) + off2 = ((tgt + 1 : Nat) : Int)) (_hx : True) (k : G E K kc ks Wd lv (tgt + 1) (.int (bz (decide (y < x))) :: st)) : G E K kc ks Wd lv pc (.long y :: .long x :: st) := by
  refine g_lcmp_le C d d2 ht (fun q => ?_) (fun q => ?_)
  · refine g_iconst (v := 0) C d5 (by decide) ?_
    rw [show bz (decide (y < x)) = 0 from bz_0.mpr (decide_eq_false (Int64.not_lt.mpr q))] at k
    exact k
  · refine g_iconst (v := 1) C d3 (by decide) ?_
    refine g_goto C d4 ht2 ?_
    rw [show bz (decide (y < x)) = 1 from congrArg bz (decide_eq_true (Int64.not_le.mp q))] at k
    exact k
theorem g_dia_if_le {E : EnvT} {K : KT} {cc : ByteArray} {own : String} {nL : Nat} {R : Room} {kc ks : Nat} {Wd : va_W} {lv : List (Nat × Value)} {pc : Nat} {st : List Value} {x : Int32} {off off2 : Int} {tgt : Nat} (C : Ok E K cc own nL R) (d : decode cc pc = .ok (.ifCond .le off, 3)) (d3 : decode cc (pc + 3) = .ok (.iconst 1, 1)) (d4 : decode cc (pc + 3 + 1) = .ok (.goto off2, 3)) (d5 : decode cc tgt = .ok (.iconst 0, 1)) (ht : (pc : Int) + off = (tgt : Int)) (ht2 : ((pc + 3 + 1 : Nat) : Int) + off2 = ((tgt + 1 : Nat) : Int)) (_hx : True) (k : G E K kc ks Wd lv (tgt + 1) (.int (bz (decide (0 < x))) :: st)) : G E K kc ks Wd lv pc (.int x :: st) := by
  refine g_if_le C d ht (fun q => ?_) (fun q => ?_)
  · refine g_iconst (v := 0) C d5 (by decide) ?_
    rw [show bz (decide (0 < x)) = 0 from bz_0.mpr (decide_eq_false (Int32.not_lt.mpr q))] at k
    exact k
  · refine g_iconst (v := 1) C d3 (by decide) ?_
    refine g_goto C d4 ht2 ?_
    rw [show bz (decide (0 < x)) = 1 from congrArg bz (decide_eq_true (Int32.not_le.mp q))] at k
    exact k
theorem g_bz1_ne {E : EnvT} {K : KT} {cc : ByteArray} {own : String} {nL : Nat} {R : Room} {kc ks : Nat} {Wd : va_W} {lv : List (Nat × Value)} {pc : Nat} {st : List Value} {b : Bool} {off : Int} {tgt : Nat} (C : Ok E K cc own nL R) (d : decode cc pc = .ok (.if_icmp .ne off, 3)) (ht : (pc : Int) + off = (tgt : Int)) (kt : b = false → G E K kc ks Wd lv tgt st) (kf : b = true → G E K kc ks Wd lv (pc + 3) st) : G E K kc ks Wd lv pc (.int 1 :: .int (bz b) :: st) := g_icmp_ne C d ht (fun q => kt (by cases b; rfl; exact absurd rfl q)) (fun q => kf (by cases b; exact absurd q (by decide); rfl))
theorem g_bz1_eq {E : EnvT} {K : KT} {cc : ByteArray} {own : String} {nL : Nat} {R : Room} {kc ks : Nat} {Wd : va_W} {lv : List (Nat × Value)} {pc : Nat} {st : List Value} {b : Bool} {off : Int} {tgt : Nat} (C : Ok E K cc own nL R) (d : decode cc pc = .ok (.if_icmp .eq off, 3)) (ht : (pc : Int) + off = (tgt : Int)) (kt : b = true → G E K kc ks Wd lv tgt st) (kf : b = false → G E K kc ks Wd lv (pc + 3) st) : G E K kc ks Wd lv pc (.int 1 :: .int (bz b) :: st) := g_icmp_eq C d ht (fun q => kt (by cases b; exact absurd q (by decide); rfl)) (fun q => kf (by cases b; rfl; exact absurd rfl q))
theorem g_tin {E : EnvT} {K : KT} {cc : ByteArray} {own : String} {nL : Nat} {R : Room} {kc ks : Nat} {Wd : va_W} {lv : List (Nat × Value)} {pc : Nat} {st : List Value} {dflt lo hi : Int} {offs : Array Int} {len : Nat} {x : Int32} {off : Int} {tgt : Nat} (C : Ok E K cc own nL R) (d : decode cc pc = .ok (.tableswitch dflt lo hi offs, len)) (h1 : ¬ x.toInt < lo) (h2 : ¬ hi < x.toInt) (ho : offs[(x.toInt - lo).toNat]? = some off) (ht : (pc : Int) + off = (tgt : Int)) (k : G E K kc ks Wd lv tgt st) : G E K kc ks Wd lv pc (.int x :: st) := by
  obtain ⟨p, l, e, R1, s, m, args, below, meth, c, Q, A, nL1⟩ := E
  obtain ⟨hx, hb, hml, hown, hts, hN, hK, hA, rfl, rfl⟩ := C
  intro H locs ls hP hD hS hl
  exact lv_tableIn hx hb d h1 h2 ho ht (k H locs ls hP hD hS hl)
theorem g_tout {E : EnvT} {K : KT} {cc : ByteArray} {own : String} {nL : Nat} {R : Room} {kc ks : Nat} {Wd : va_W} {lv : List (Nat × Value)} {pc : Nat} {st : List Value} {dflt lo hi : Int} {offs : Array Int} {len : Nat} {x : Int32} {tgt : Nat} (C : Ok E K cc own nL R) (d : decode cc pc = .ok (.tableswitch dflt lo hi offs, len)) (h : x.toInt < lo ∨ hi < x.toInt) (ht : (pc : Int) + dflt = (tgt : Int)) (k : G E K kc ks Wd lv tgt st) : G E K kc ks Wd lv pc (.int x :: st) := by
  obtain ⟨p, l, e, R1, s, m, args, below, meth, c, Q, A, nL1⟩ := E
  obtain ⟨hx, hb, hml, hown, hts, hN, hK, hA, rfl, rfl⟩ := C
  intro H locs ls hP hD hS hl
  exact lv_tableOut hx hb d h ht (k H locs ls hP hD hS hl)
theorem g_bzcmp_ne {E : EnvT} {K : KT} {cc : ByteArray} {own : String} {nL : Nat} {R : Room} {kc ks : Nat} {Wd : va_W} {lv : List (Nat × Value)} {pc : Nat} {st : List Value} {a b : Bool} {off : Int} {tgt : Nat} (C : Ok E K cc own nL R) (d : decode cc pc = .ok (.if_icmp .ne off, 3)) (ht : (pc : Int) + off = (tgt : Int)) (kt : (a == b) = false → G E K kc ks Wd lv tgt st) (kf : (a == b) = true → G E K kc ks Wd lv (pc + 3) st) : G E K kc ks Wd lv pc (.int (bz b) :: .int (bz a) :: st) := g_icmp_ne C d ht (fun q => kt (by cases a <;> cases b <;> first | rfl | exact absurd rfl q)) (fun q => kf (by cases a <;> cases b <;> first | rfl | exact absurd q (by decide)))
set_option maxHeartbeats 600000 in
set_option maxRecDepth 100000 in
theorem kX1_isRegister (K : KT) (Wd : va_W) (x : Int32) : ∀ lau : Launch, Con lau yX1_isRegister cX1_isRegister 1 (some .boolean) 0 0 K Wd (fun _ : Unit => Wd) [.int x] (some (.int (bz (isReg x)))) := by
  refine conZ (by decide) (Nat.le_of_ble_eq_true rfl) (fun E C hR => ?_)
  show G E K 0 0 Wd [(0, .int x)] 0 []
  refine g_iload_n (i := 0) C dX1_isRegister_0 rfl rfl ?_
  refine g_if_lt (tgt := 14) C dX1_isRegister_1 (by decide) (fun c1_1 => ?_) (fun c1_1 => ?_)
  · skip
    refine g_iconst (v := 0) C dX1_isRegister_14 (by decide) ?_
    exact hR _ _ _ _ () dX1_isRegister_15 (by simp [isReg, bz, c1_1]) (rfl)
  · skip
    refine g_iload_n (i := 0) C dX1_isRegister_4 rfl rfl ?_
    refine g_bipush (v := 12) C dX1_isRegister_5 (by decide) ?_
    refine g_icmp_ge (tgt := 14) C dX1_isRegister_7 (by decide) (fun c7_2 => ?_) (fun c7_2 => ?_)
    · skip
      refine g_iconst (v := 0) C dX1_isRegister_14 (by decide) ?_
      exact hR _ _ _ _ () dX1_isRegister_15 (by simp [isReg, bz, c1_1, c7_2]) (rfl)
    · skip
      refine g_iconst (v := 1) C dX1_isRegister_10 (by decide) ?_
      refine g_goto (tgt := 15) C dX1_isRegister_11 (by decide) ?_
      exact hR _ _ _ _ () dX1_isRegister_15 (by simp [isReg, bz, c1_1, c7_2]) (rfl)

set_option maxHeartbeats 600000 in
set_option maxRecDepth 100000 in
theorem kX1_isSum (K : KT) (Wd : va_W) (x : Int32) : ∀ lau : Launch, Con lau yX1_isSum cX1_isSum 1 (some .boolean) 0 0 K Wd (fun _ : Unit => Wd) [.int x] (some (.int (bz (isSm x)))) := by
  refine conZ (by decide) (Nat.le_of_ble_eq_true rfl) (fun E C hR => ?_)
  show G E K 0 0 Wd [(0, .int x)] 0 []
  refine g_iload_n (i := 0) C dX1_isSum_0 rfl rfl ?_
  refine g_if_lt (tgt := 14) C dX1_isSum_1 (by decide) (fun c1_1 => ?_) (fun c1_1 => ?_)
  · skip
    refine g_iconst (v := 0) C dX1_isSum_14 (by decide) ?_
    exact hR _ _ _ _ () dX1_isSum_15 (by simp [isSm, bz, c1_1]) (rfl)
  · skip
    refine g_iload_n (i := 0) C dX1_isSum_4 rfl rfl ?_
    refine g_bipush (v := 8) C dX1_isSum_5 (by decide) ?_
    refine g_icmp_ge (tgt := 14) C dX1_isSum_7 (by decide) (fun c7_2 => ?_) (fun c7_2 => ?_)
    · skip
      refine g_iconst (v := 0) C dX1_isSum_14 (by decide) ?_
      exact hR _ _ _ _ () dX1_isSum_15 (by simp [isSm, bz, c1_1, c7_2]) (rfl)
    · skip
      refine g_iconst (v := 1) C dX1_isSum_10 (by decide) ?_
      refine g_goto (tgt := 15) C dX1_isSum_11 (by decide) ?_
      exact hR _ _ _ _ () dX1_isSum_15 (by simp [isSm, bz, c1_1, c7_2]) (rfl)

set_option maxHeartbeats 600000 in
set_option maxRecDepth 100000 in
theorem kX1_isListedDay (K : KT) (Wd : va_W) (x : Int32) : ∀ lau : Launch, Con lau yX1_isListedDay cX1_isListedDay 1 (some .boolean) 0 0 K Wd (fun _ : Unit => Wd) [.int x] (some (.int (bz (isLd x)))) := by
  refine conZ (by decide) (Nat.le_of_ble_eq_true rfl) (fun E C hR => ?_)
  show G E K 0 0 Wd [(0, .int x)] 0 []
  refine g_iload_n (i := 0) C dX1_isListedDay_0 rfl rfl ?_
  refine g_if_lt (tgt := 14) C dX1_isListedDay_1 (by decide) (fun c1_1 => ?_) (fun c1_1 => ?_)
  · skip
    refine g_iconst (v := 0) C dX1_isListedDay_14 (by decide) ?_
    exact hR _ _ _ _ () dX1_isListedDay_15 (by simp [isLd, bz, c1_1]) (rfl)
  · skip
    refine g_iload_n (i := 0) C dX1_isListedDay_4 rfl rfl ?_
    refine g_bipush (v := 20) C dX1_isListedDay_5 (by decide) ?_
    refine g_icmp_gt (tgt := 14) C dX1_isListedDay_7 (by decide) (fun c7_2 => ?_) (fun c7_2 => ?_)
    · skip
      refine g_iconst (v := 0) C dX1_isListedDay_14 (by decide) ?_
      exact hR _ _ _ _ () dX1_isListedDay_15 (by simp [isLd, bz, c1_1, c7_2]) (rfl)
    · skip
      refine g_iconst (v := 1) C dX1_isListedDay_10 (by decide) ?_
      refine g_goto (tgt := 15) C dX1_isListedDay_11 (by decide) ?_
      exact hR _ _ _ _ () dX1_isListedDay_15 (by simp [isLd, bz, c1_1, c7_2]) (rfl)

set_option maxHeartbeats 600000 in
set_option maxRecDepth 100000 in
theorem kX1_isExponent (K : KT) (Wd : va_W) (x : Int32) : ∀ lau : Launch, Con lau yX1_isExponent cX1_isExponent 1 (some .boolean) 0 0 K Wd (fun _ : Unit => Wd) [.int x] (some (.int (bz (isEx x)))) := by
  refine conZ (by decide) (Nat.le_of_ble_eq_true rfl) (fun E C hR => ?_)
  show G E K 0 0 Wd [(0, .int x)] 0 []
  refine g_iload_n (i := 0) C dX1_isExponent_0 rfl rfl ?_
  refine g_bipush (v := (-6)) C dX1_isExponent_1 (by decide) ?_
  refine g_icmp_lt (tgt := 16) C dX1_isExponent_3 (by decide) (fun c3_1 => ?_) (fun c3_1 => ?_)
  · skip
    refine g_iconst (v := 0) C dX1_isExponent_16 (by decide) ?_
    exact hR _ _ _ _ () dX1_isExponent_17 (by simp [isEx, bz, c3_1]) (rfl)
  · skip
    refine g_iload_n (i := 0) C dX1_isExponent_6 rfl rfl ?_
    refine g_bipush (v := 6) C dX1_isExponent_7 (by decide) ?_
    refine g_icmp_gt (tgt := 16) C dX1_isExponent_9 (by decide) (fun c9_2 => ?_) (fun c9_2 => ?_)
    · skip
      refine g_iconst (v := 0) C dX1_isExponent_16 (by decide) ?_
      exact hR _ _ _ _ () dX1_isExponent_17 (by simp [isEx, bz, c3_1, c9_2]) (rfl)
    · skip
      refine g_iconst (v := 1) C dX1_isExponent_12 (by decide) ?_
      refine g_goto (tgt := 17) C dX1_isExponent_13 (by decide) ?_
      exact hR _ _ _ _ () dX1_isExponent_17 (by simp [isEx, bz, c3_1, c9_2]) (rfl)

set_option maxHeartbeats 600000 in
set_option maxRecDepth 100000 in
theorem kX1_isFraction (K : KT) (Wd : va_W) (x : Int32) (y : Int32) : ∀ lau : Launch, Con lau yX1_isFraction cX1_isFraction 2 (some .boolean) 0 0 K Wd (fun _ : Unit => Wd) [.int x, .int y] (some (.int (bz (isFr x y)))) := by
  refine conZ (by decide) (Nat.le_of_ble_eq_true rfl) (fun E C hR => ?_)
  show G E K 0 0 Wd [(0, .int x), (1, .int y)] 0 []
  refine g_iload_n (i := 0) C dX1_isFraction_0 rfl rfl ?_
  refine g_ldc (v := (-1000000000)) C dX1_isFraction_1 kc_X1_60 ?_
  refine g_icmp_lt (tgt := 26) C dX1_isFraction_3 (by decide) (fun c3_1 => ?_) (fun c3_1 => ?_)
  · skip
    refine g_iconst (v := 0) C dX1_isFraction_26 (by decide) ?_
    exact hR _ _ _ _ () dX1_isFraction_27 (by simp [isFr, bz, c3_1]) (rfl)
  · skip
    refine g_iload_n (i := 0) C dX1_isFraction_6 rfl rfl ?_
    refine g_ldc (v := 1000000000) C dX1_isFraction_7 kc_X1_161 ?_
    refine g_icmp_gt (tgt := 26) C dX1_isFraction_9 (by decide) (fun c9_2 => ?_) (fun c9_2 => ?_)
    · skip
      refine g_iconst (v := 0) C dX1_isFraction_26 (by decide) ?_
      exact hR _ _ _ _ () dX1_isFraction_27 (by simp [isFr, bz, c3_1, c9_2]) (rfl)
    · skip
      refine g_iload_n (i := 1) C dX1_isFraction_12 rfl rfl ?_
      refine g_if_lt (tgt := 26) C dX1_isFraction_13 (by decide) (fun c13_3 => ?_) (fun c13_3 => ?_)
      · skip
        refine g_iconst (v := 0) C dX1_isFraction_26 (by decide) ?_
        exact hR _ _ _ _ () dX1_isFraction_27 (by simp [isFr, bz, c3_1, c9_2, c13_3]) (rfl)
      · skip
        refine g_iload_n (i := 1) C dX1_isFraction_16 rfl rfl ?_
        refine g_bipush (v := 20) C dX1_isFraction_17 (by decide) ?_
        refine g_icmp_gt (tgt := 26) C dX1_isFraction_19 (by decide) (fun c19_4 => ?_) (fun c19_4 => ?_)
        · skip
          refine g_iconst (v := 0) C dX1_isFraction_26 (by decide) ?_
          exact hR _ _ _ _ () dX1_isFraction_27 (by simp [isFr, bz, c3_1, c9_2, c13_3, c19_4]) (rfl)
        · skip
          refine g_iconst (v := 1) C dX1_isFraction_22 (by decide) ?_
          refine g_goto (tgt := 27) C dX1_isFraction_23 (by decide) ?_
          exact hR _ _ _ _ () dX1_isFraction_27 (by simp [isFr, bz, c3_1, c9_2, c13_3, c19_4]) (rfl)

set_option maxHeartbeats 600000 in
set_option maxRecDepth 100000 in
theorem kX1_areRegisters (K : KT) (Wd : va_W) (x : Int32) : ∀ lau : Launch, Con lau yX1_areRegisters cX1_areRegisters 1 (some .boolean) 0 0 K Wd (fun _ : Unit => Wd) [.int x] (some (.int (bz (areRg x)))) := by
  refine conZ (by decide) (Nat.le_of_ble_eq_true rfl) (fun E C hR => ?_)
  show G E K 0 0 Wd [(0, .int x)] 0 []
  refine g_iload_n (i := 0) C dX1_areRegisters_0 rfl rfl ?_
  refine g_bipush (v := 12) C dX1_areRegisters_1 (by decide) ?_
  refine g_iushr (v := ushrI x 12) C dX1_areRegisters_3 rfl ?_
  refine g_dia_if_ne (tgt := 11) C dX1_areRegisters_4 dX1_areRegisters_7 dX1_areRegisters_8 dX1_areRegisters_11 (by decide) (by decide) trivial ?_
  exact hR _ _ _ _ () dX1_areRegisters_12 (rfl) (rfl)

set_option maxHeartbeats 600000 in
set_option maxRecDepth 100000 in
theorem kX1_has (K : KT) (Wd : va_W) (x : Int32) (y : Int32) : ∀ lau : Launch, Con lau yX1_has cX1_has 2 (some .boolean) 0 0 K Wd (fun _ : Unit => Wd) [.int x, .int y] (some (.int (bz (tb x y)))) := by
  refine conZ (by decide) (Nat.le_of_ble_eq_true rfl) (fun E C hR => ?_)
  show G E K 0 0 Wd [(0, .int x), (1, .int y)] 0 []
  refine g_iload_n (i := 0) C dX1_has_0 rfl rfl ?_
  refine g_iload_n (i := 1) C dX1_has_1 rfl rfl ?_
  refine g_iushr (v := ushrI x y) C dX1_has_2 rfl ?_
  refine g_iconst (v := 1) C dX1_has_3 (by decide) ?_
  refine g_iand C dX1_has_4 ?_
  refine g_iconst (v := 1) C dX1_has_5 (by decide) ?_
  refine g_dia_icmp_ne (tgt := 13) C dX1_has_6 dX1_has_9 dX1_has_10 dX1_has_13 (by decide) (by decide) trivial ?_
  exact hR _ _ _ _ () dX1_has_14 (rfl) (rfl)

set_option maxHeartbeats 600000 in
set_option maxRecDepth 100000 in
theorem kX1_isPlus (K : KT) (Wd : va_W) (x : Int32) (y : Int32) : ∀ lau : Launch, Con lau yX1_isPlus cX1_isPlus 2 (some .boolean) 1 21 K Wd (fun _ : Unit => Wd) [.int x, .int y] (some (.int (bz (tb x y)))) := by
  refine conZ (by decide) (Nat.le_of_ble_eq_true rfl) (fun E C hR => ?_)
  show G E K 0 0 Wd [(0, .int x), (1, .int y)] 0 []
  refine g_iload_n (i := 0) C dX1_isPlus_0 rfl rfl ?_
  refine g_iload_n (i := 1) C dX1_isPlus_1 rfl rfl ?_
  refine g_callS (av := [.int x, .int y]) C dX1_isPlus_2 ln_X1_106 mf_X1_has (kX1_has K Wd x y) rfl rfl (Nat.le_of_ble_eq_true rfl) ⟨Nat.le_of_ble_eq_true rfl, Nat.le_of_ble_eq_true rfl⟩ ⟨Nat.zero_le _, Nat.zero_le _⟩ (fun _ => ?_)
  exact hR _ _ _ _ () dX1_isPlus_5 (rfl) (rfl)

set_option maxHeartbeats 600000 in
set_option maxRecDepth 100000 in
theorem kX1_lowBits (K : KT) (Wd : va_W) (x : Int32) : ∀ lau : Launch, Con lau yX1_lowBits cX1_lowBits 1 (some .int) 0 0 K Wd (fun _ : Unit => Wd) [.int x] (some (.int (lowB x))) := by
  refine conI (by decide) (Nat.le_of_ble_eq_true rfl) (fun E C hR => ?_)
  show G E K 0 0 Wd [(0, .int x)] 0 []
  refine g_iconst (v := 1) C dX1_lowBits_0 (by decide) ?_
  refine g_iload_n (i := 0) C dX1_lowBits_1 rfl rfl ?_
  refine g_ishl C dX1_lowBits_2 ?_
  refine g_iconst (v := 1) C dX1_lowBits_3 (by decide) ?_
  refine g_isub C dX1_lowBits_4 ?_
  exact hR _ _ _ _ () dX1_lowBits_5 (rfl) (rfl)

set_option maxHeartbeats 600000 in
set_option maxRecDepth 100000 in
theorem kX1_signOf (K : KT) (Wd : va_W) (x : Int64) : ∀ lau : Launch, Con lau yX1_signOf cX1_signOf 2 (some .int) 0 0 K Wd (fun _ : Unit => Wd) [.long x] (some (.int (sgnO x))) := by
  refine conI (by decide) (Nat.le_of_ble_eq_true rfl) (fun E C hR => ?_)
  show G E K 0 0 Wd [(0, .long x)] 0 []
  refine g_lload_n (i := 0) C dX1_signOf_0 rfl rfl ?_
  refine g_lconst (v := 0) C dX1_signOf_1 (by decide) ?_
  refine g_lcmp_ne (tgt := 8) C dX1_signOf_2 dX1_signOf_3 (by decide) (fun c2_1 => ?_) (fun c2_1 => ?_)
  · skip
    refine g_lload_n (i := 0) C dX1_signOf_8 rfl rfl ?_
    refine g_lconst (v := 0) C dX1_signOf_9 (by decide) ?_
    refine g_lcmp_ge (tgt := 18) C dX1_signOf_10 dX1_signOf_11 (by decide) (fun c10_2 => ?_) (fun c10_2 => ?_)
    · skip
      refine g_iconst (v := 1) C dX1_signOf_18 (by decide) ?_
      exact hR _ _ _ _ () dX1_signOf_19 (by simp [sgnO, c2_1, c10_2]) (rfl)
    · skip
      refine g_iconst (v := (-1)) C dX1_signOf_14 (by decide) ?_
      refine g_goto (tgt := 19) C dX1_signOf_15 (by decide) ?_
      exact hR _ _ _ _ () dX1_signOf_19 (by simp [sgnO, c2_1, c10_2]) (rfl)
  · skip
    refine g_iconst (v := 0) C dX1_signOf_6 (by decide) ?_
    exact hR _ _ _ _ () dX1_signOf_7 (by simp [sgnO, c2_1]) (rfl)

set_option maxHeartbeats 600000 in
set_option maxRecDepth 100000 in
theorem kX2_in (K : KT) (Wd : va_W) (x : Int64) (y : Int64) (z : Int64) : ∀ lau : Launch, Con lau yX2_in cX2_in 6 (some .boolean) 0 0 K Wd (fun _ : Unit => Wd) [.long x, .long y, .long z] (some (.int (bz (inL x y z)))) := by
  refine conZ (by decide) (Nat.le_of_ble_eq_true rfl) (fun E C hR => ?_)
  show G E K 0 0 Wd [(0, .long x), (2, .long y), (4, .long z)] 0 []
  refine g_lload_n (i := 0) C dX2_in_0 rfl rfl ?_
  refine g_lload_n (i := 2) C dX2_in_1 rfl rfl ?_
  refine g_lcmp_lt (tgt := 17) C dX2_in_2 dX2_in_3 (by decide) (fun c2_1 => ?_) (fun c2_1 => ?_)
  · skip
    refine g_iconst (v := 0) C dX2_in_17 (by decide) ?_
    exact hR _ _ _ _ () dX2_in_18 (by simp [inL, bz, c2_1]) (rfl)
  · skip
    refine g_lload_n (i := 0) C dX2_in_6 rfl rfl ?_
    refine g_lload C dX2_in_7 rfl ?_
    refine g_lcmp_gt (tgt := 17) C dX2_in_9 dX2_in_10 (by decide) (fun c9_2 => ?_) (fun c9_2 => ?_)
    · skip
      refine g_iconst (v := 0) C dX2_in_17 (by decide) ?_
      exact hR _ _ _ _ () dX2_in_18 (by simp [inL, bz, c2_1, c9_2]) (rfl)
    · skip
      refine g_iconst (v := 1) C dX2_in_13 (by decide) ?_
      refine g_goto (tgt := 18) C dX2_in_14 (by decide) ?_
      exact hR _ _ _ _ () dX2_in_18 (by simp [inL, bz, c2_1, c9_2]) (rfl)

set_option maxHeartbeats 600000 in
set_option maxRecDepth 100000 in
theorem kX2_isRegister (K : KT) (Wd : va_W) (x : Int32) : ∀ lau : Launch, Con lau yX2_isRegister cX2_isRegister 1 (some .boolean) 1 25 K Wd (fun _ : Unit => Wd) [.int x] (some (.int (bz (isReg x)))) := by
  refine conZ (by decide) (Nat.le_of_ble_eq_true rfl) (fun E C hR => ?_)
  show G E K 0 0 Wd [(0, .int x)] 0 []
  refine g_iload_n (i := 0) C dX2_isRegister_0 rfl rfl ?_
  refine g_i2l (v := Int32.toInt64 x) C dX2_isRegister_1 rfl ?_
  refine g_lconst (v := 0) C dX2_isRegister_2 (by decide) ?_
  refine g_ldc2 (v := 11) C dX2_isRegister_3 kc_X2_30 ?_
  refine g_callS (av := [.long (Int32.toInt64 x), .long 0, .long 11]) C dX2_isRegister_6 ln_X2_32 mf_X2_in (kX2_in K Wd (Int32.toInt64 x) 0 11) rfl rfl (Nat.le_of_ble_eq_true rfl) ⟨Nat.le_of_ble_eq_true rfl, Nat.le_of_ble_eq_true rfl⟩ ⟨Nat.zero_le _, Nat.zero_le _⟩ (fun _ => ?_)
  exact hR _ _ _ _ () dX2_isRegister_9 (by rw [inL_reg]) (rfl)

set_option maxHeartbeats 600000 in
set_option maxRecDepth 100000 in
theorem kX2_isSum (K : KT) (Wd : va_W) (x : Int32) : ∀ lau : Launch, Con lau yX2_isSum cX2_isSum 1 (some .boolean) 1 25 K Wd (fun _ : Unit => Wd) [.int x] (some (.int (bz (isSm x)))) := by
  refine conZ (by decide) (Nat.le_of_ble_eq_true rfl) (fun E C hR => ?_)
  show G E K 0 0 Wd [(0, .int x)] 0 []
  refine g_iload_n (i := 0) C dX2_isSum_0 rfl rfl ?_
  refine g_i2l (v := Int32.toInt64 x) C dX2_isSum_1 rfl ?_
  refine g_lconst (v := 0) C dX2_isSum_2 (by decide) ?_
  refine g_ldc2 (v := 7) C dX2_isSum_3 kc_X2_103 ?_
  refine g_callS (av := [.long (Int32.toInt64 x), .long 0, .long 7]) C dX2_isSum_6 ln_X2_32 mf_X2_in (kX2_in K Wd (Int32.toInt64 x) 0 7) rfl rfl (Nat.le_of_ble_eq_true rfl) ⟨Nat.le_of_ble_eq_true rfl, Nat.le_of_ble_eq_true rfl⟩ ⟨Nat.zero_le _, Nat.zero_le _⟩ (fun _ => ?_)
  exact hR _ _ _ _ () dX2_isSum_9 (by rw [inL_sm]) (rfl)

set_option maxHeartbeats 600000 in
set_option maxRecDepth 100000 in
theorem kX2_compare (K : KT) (Wd : va_W) (x : Int64) (y : Int64) : ∀ lau : Launch, Con lau yX2_compare cX2_compare 4 (some .int) 0 0 K Wd (fun _ : Unit => Wd) [.long x, .long y] (some (.int (cmpL x y))) := by
  refine conI (by decide) (Nat.le_of_ble_eq_true rfl) (fun E C hR => ?_)
  show G E K 0 0 Wd [(0, .long x), (2, .long y)] 0 []
  refine g_lload_n (i := 0) C dX2_compare_0 rfl rfl ?_
  refine g_lload_n (i := 2) C dX2_compare_1 rfl rfl ?_
  refine g_lcmp_ge (tgt := 10) C dX2_compare_2 dX2_compare_3 (by decide) (fun c2_1 => ?_) (fun c2_1 => ?_)
  · skip
    refine g_lload_n (i := 0) C dX2_compare_10 rfl rfl ?_
    refine g_lload_n (i := 2) C dX2_compare_11 rfl rfl ?_
    refine g_dia_lcmp_le (tgt := 20) C dX2_compare_12 dX2_compare_13 dX2_compare_16 dX2_compare_17 dX2_compare_20 (by decide) (by decide) trivial ?_
    exact hR _ _ _ _ () dX2_compare_21 (by simp [cmpL, c2_1]) (rfl)
  · skip
    refine g_iconst (v := (-1)) C dX2_compare_6 (by decide) ?_
    refine g_goto (tgt := 21) C dX2_compare_7 (by decide) ?_
    exact hR _ _ _ _ () dX2_compare_21 (by simp [cmpL, c2_1]) (rfl)

set_option maxHeartbeats 600000 in
set_option maxRecDepth 100000 in
theorem kX2_size (K : KT) (Wd : va_W) (x : Int32) (y : Int32) : ∀ lau : Launch, Con lau yX2_size cX2_size 2 (some .int) 0 0 K Wd (fun _ : Unit => Wd) [.int x, .int y] (some (.int (sizM x y))) := by
  refine conI (by decide) (Nat.le_of_ble_eq_true rfl) (fun E C hR => ?_)
  show G E K 0 0 Wd [(0, .int x), (1, .int y)] 0 []
  refine g_iload_n (i := 0) C dX2_size_0 rfl rfl ?_
  refine g_iload_n (i := 1) C dX2_size_1 rfl rfl ?_
  refine g_icmp_gt (tgt := 17) C dX2_size_2 (by decide) (fun c2_1 => ?_) (fun c2_1 => ?_)
  · skip
    refine g_iconst (v := 0) C dX2_size_17 (by decide) ?_
    exact hR _ _ _ _ () dX2_size_18 (by simp [sizM, c2_1]) (rfl)
  · skip
    refine g_iconst (v := 1) C dX2_size_5 (by decide) ?_
    refine g_iload_n (i := 1) C dX2_size_6 rfl rfl ?_
    refine g_iload_n (i := 0) C dX2_size_7 rfl rfl ?_
    refine g_isub C dX2_size_8 ?_
    refine g_iconst (v := 1) C dX2_size_9 (by decide) ?_
    refine g_iadd C dX2_size_10 ?_
    refine g_ishl C dX2_size_11 ?_
    refine g_iconst (v := 1) C dX2_size_12 (by decide) ?_
    refine g_isub C dX2_size_13 ?_
    refine g_goto (tgt := 18) C dX2_size_14 (by decide) ?_
    exact hR _ _ _ _ () dX2_size_18 (by simp [sizM, c2_1]) (rfl)

set_option maxHeartbeats 600000 in
set_option maxRecDepth 100000 in
theorem kX2_place (K : KT) (Wd : va_W) (x : Int32) (y : Int32) : ∀ lau : Launch, Con lau yX2_place cX2_place 2 (some .int) 0 0 K Wd (fun _ : Unit => Wd) [.int x, .int y] (some (.int (13 * x + y + 6))) := by
  refine conI (by decide) (Nat.le_of_ble_eq_true rfl) (fun E C hR => ?_)
  show G E K 0 0 Wd [(0, .int x), (1, .int y)] 0 []
  refine g_bipush (v := 13) C dX2_place_0 (by decide) ?_
  refine g_iload_n (i := 0) C dX2_place_2 rfl rfl ?_
  refine g_imul C dX2_place_3 ?_
  refine g_iload_n (i := 1) C dX2_place_4 rfl rfl ?_
  refine g_iadd C dX2_place_5 ?_
  refine g_bipush (v := 6) C dX2_place_6 (by decide) ?_
  refine g_iadd C dX2_place_8 ?_
  exact hR _ _ _ _ () dX2_place_9 (rfl) (rfl)

set_option maxHeartbeats 600000 in
set_option maxRecDepth 100000 in
theorem kJ13_bitCount_95d88 (K : KT) (Wd : va_W) (x : Int64) : ∀ lau : Launch, Con lau yJ13_bitCount_95d88 cJ13_bitCount_95d88 2 (some .int) 0 0 K Wd (fun _ : Unit => Wd) [.long x] (some (.int (bcL x))) := by
  refine conI (by decide) (Nat.le_of_ble_eq_true rfl) (fun E C hR => ?_)
  show G E K 0 0 Wd [(0, .long x)] 0 []
  refine g_lload_n (i := 0) C dJ13_bitCount_95d88_0 rfl rfl ?_
  refine g_lload_n (i := 0) C dJ13_bitCount_95d88_1 rfl rfl ?_
  refine g_iconst (v := 1) C dJ13_bitCount_95d88_2 (by decide) ?_
  refine g_lushr (v := ushrL x 1) C dJ13_bitCount_95d88_3 rfl ?_
  refine g_ldc2 (v := 6148914691236517205) C dJ13_bitCount_95d88_4 kc_J13_314 ?_
  refine g_land C dJ13_bitCount_95d88_7 ?_
  refine g_lsub C dJ13_bitCount_95d88_8 ?_
  refine g_lstore_n (i := 0) (lv2 := [(0, .long (x - ((ushrL x 1) &&& 6148914691236517205)))]) C dJ13_bitCount_95d88_9 rfl (by decide) rfl ?_
  refine g_lload_n (i := 0) C dJ13_bitCount_95d88_10 rfl rfl ?_
  refine g_ldc2 (v := 3689348814741910323) C dJ13_bitCount_95d88_11 kc_J13_316 ?_
  refine g_land C dJ13_bitCount_95d88_14 ?_
  refine g_lload_n (i := 0) C dJ13_bitCount_95d88_15 rfl rfl ?_
  refine g_iconst (v := 2) C dJ13_bitCount_95d88_16 (by decide) ?_
  refine g_lushr (v := ushrL (x - ((ushrL x 1) &&& 6148914691236517205)) 2) C dJ13_bitCount_95d88_17 rfl ?_
  refine g_ldc2 (v := 3689348814741910323) C dJ13_bitCount_95d88_18 kc_J13_316 ?_
  refine g_land C dJ13_bitCount_95d88_21 ?_
  refine g_ladd C dJ13_bitCount_95d88_22 ?_
  refine g_lstore_n (i := 0) (lv2 := [(0, .long (((x - ((ushrL x 1) &&& 6148914691236517205)) &&& 3689348814741910323) + ((ushrL (x - ((ushrL x 1) &&& 6148914691236517205)) 2) &&& 3689348814741910323)))]) C dJ13_bitCount_95d88_23 rfl (by decide) rfl ?_
  refine g_lload_n (i := 0) C dJ13_bitCount_95d88_24 rfl rfl ?_
  refine g_lload_n (i := 0) C dJ13_bitCount_95d88_25 rfl rfl ?_
  refine g_iconst (v := 4) C dJ13_bitCount_95d88_26 (by decide) ?_
  refine g_lushr (v := ushrL (((x - ((ushrL x 1) &&& 6148914691236517205)) &&& 3689348814741910323) + ((ushrL (x - ((ushrL x 1) &&& 6148914691236517205)) 2) &&& 3689348814741910323)) 4) C dJ13_bitCount_95d88_27 rfl ?_
  refine g_ladd C dJ13_bitCount_95d88_28 ?_
  refine g_ldc2 (v := 1085102592571150095) C dJ13_bitCount_95d88_29 kc_J13_318 ?_
  refine g_land C dJ13_bitCount_95d88_32 ?_
  refine g_lstore_n (i := 0) (lv2 := [(0, .long (((((x - ((ushrL x 1) &&& 6148914691236517205)) &&& 3689348814741910323) + ((ushrL (x - ((ushrL x 1) &&& 6148914691236517205)) 2) &&& 3689348814741910323)) + (ushrL (((x - ((ushrL x 1) &&& 6148914691236517205)) &&& 3689348814741910323) + ((ushrL (x - ((ushrL x 1) &&& 6148914691236517205)) 2) &&& 3689348814741910323)) 4)) &&& 1085102592571150095))]) C dJ13_bitCount_95d88_33 rfl (by decide) rfl ?_
  refine g_lload_n (i := 0) C dJ13_bitCount_95d88_34 rfl rfl ?_
  refine g_lload_n (i := 0) C dJ13_bitCount_95d88_35 rfl rfl ?_
  refine g_bipush (v := 8) C dJ13_bitCount_95d88_36 (by decide) ?_
  refine g_lushr (v := ushrL (((((x - ((ushrL x 1) &&& 6148914691236517205)) &&& 3689348814741910323) + ((ushrL (x - ((ushrL x 1) &&& 6148914691236517205)) 2) &&& 3689348814741910323)) + (ushrL (((x - ((ushrL x 1) &&& 6148914691236517205)) &&& 3689348814741910323) + ((ushrL (x - ((ushrL x 1) &&& 6148914691236517205)) 2) &&& 3689348814741910323)) 4)) &&& 1085102592571150095) 8) C dJ13_bitCount_95d88_38 rfl ?_
  refine g_ladd C dJ13_bitCount_95d88_39 ?_
  refine g_lstore_n (i := 0) (lv2 := [(0, .long ((((((x - ((ushrL x 1) &&& 6148914691236517205)) &&& 3689348814741910323) + ((ushrL (x - ((ushrL x 1) &&& 6148914691236517205)) 2) &&& 3689348814741910323)) + (ushrL (((x - ((ushrL x 1) &&& 6148914691236517205)) &&& 3689348814741910323) + ((ushrL (x - ((ushrL x 1) &&& 6148914691236517205)) 2) &&& 3689348814741910323)) 4)) &&& 1085102592571150095) + (ushrL (((((x - ((ushrL x 1) &&& 6148914691236517205)) &&& 3689348814741910323) + ((ushrL (x - ((ushrL x 1) &&& 6148914691236517205)) 2) &&& 3689348814741910323)) + (ushrL (((x - ((ushrL x 1) &&& 6148914691236517205)) &&& 3689348814741910323) + ((ushrL (x - ((ushrL x 1) &&& 6148914691236517205)) 2) &&& 3689348814741910323)) 4)) &&& 1085102592571150095) 8)))]) C dJ13_bitCount_95d88_40 rfl (by decide) rfl ?_
  refine g_lload_n (i := 0) C dJ13_bitCount_95d88_41 rfl rfl ?_
  refine g_lload_n (i := 0) C dJ13_bitCount_95d88_42 rfl rfl ?_
  refine g_bipush (v := 16) C dJ13_bitCount_95d88_43 (by decide) ?_
  refine g_lushr (v := ushrL ((((((x - ((ushrL x 1) &&& 6148914691236517205)) &&& 3689348814741910323) + ((ushrL (x - ((ushrL x 1) &&& 6148914691236517205)) 2) &&& 3689348814741910323)) + (ushrL (((x - ((ushrL x 1) &&& 6148914691236517205)) &&& 3689348814741910323) + ((ushrL (x - ((ushrL x 1) &&& 6148914691236517205)) 2) &&& 3689348814741910323)) 4)) &&& 1085102592571150095) + (ushrL (((((x - ((ushrL x 1) &&& 6148914691236517205)) &&& 3689348814741910323) + ((ushrL (x - ((ushrL x 1) &&& 6148914691236517205)) 2) &&& 3689348814741910323)) + (ushrL (((x - ((ushrL x 1) &&& 6148914691236517205)) &&& 3689348814741910323) + ((ushrL (x - ((ushrL x 1) &&& 6148914691236517205)) 2) &&& 3689348814741910323)) 4)) &&& 1085102592571150095) 8)) 16) C dJ13_bitCount_95d88_45 rfl ?_
  refine g_ladd C dJ13_bitCount_95d88_46 ?_
  refine g_lstore_n (i := 0) (lv2 := [(0, .long (((((((x - ((ushrL x 1) &&& 6148914691236517205)) &&& 3689348814741910323) + ((ushrL (x - ((ushrL x 1) &&& 6148914691236517205)) 2) &&& 3689348814741910323)) + (ushrL (((x - ((ushrL x 1) &&& 6148914691236517205)) &&& 3689348814741910323) + ((ushrL (x - ((ushrL x 1) &&& 6148914691236517205)) 2) &&& 3689348814741910323)) 4)) &&& 1085102592571150095) + (ushrL (((((x - ((ushrL x 1) &&& 6148914691236517205)) &&& 3689348814741910323) + ((ushrL (x - ((ushrL x 1) &&& 6148914691236517205)) 2) &&& 3689348814741910323)) + (ushrL (((x - ((ushrL x 1) &&& 6148914691236517205)) &&& 3689348814741910323) + ((ushrL (x - ((ushrL x 1) &&& 6148914691236517205)) 2) &&& 3689348814741910323)) 4)) &&& 1085102592571150095) 8)) + (ushrL ((((((x - ((ushrL x 1) &&& 6148914691236517205)) &&& 3689348814741910323) + ((ushrL (x - ((ushrL x 1) &&& 6148914691236517205)) 2) &&& 3689348814741910323)) + (ushrL (((x - ((ushrL x 1) &&& 6148914691236517205)) &&& 3689348814741910323) + ((ushrL (x - ((ushrL x 1) &&& 6148914691236517205)) 2) &&& 3689348814741910323)) 4)) &&& 1085102592571150095) + (ushrL (((((x - ((ushrL x 1) &&& 6148914691236517205)) &&& 3689348814741910323) + ((ushrL (x - ((ushrL x 1) &&& 6148914691236517205)) 2) &&& 3689348814741910323)) + (ushrL (((x - ((ushrL x 1) &&& 6148914691236517205)) &&& 3689348814741910323) + ((ushrL (x - ((ushrL x 1) &&& 6148914691236517205)) 2) &&& 3689348814741910323)) 4)) &&& 1085102592571150095) 8)) 16)))]) C dJ13_bitCount_95d88_47 rfl (by decide) rfl ?_
  refine g_lload_n (i := 0) C dJ13_bitCount_95d88_48 rfl rfl ?_
  refine g_lload_n (i := 0) C dJ13_bitCount_95d88_49 rfl rfl ?_
  refine g_bipush (v := 32) C dJ13_bitCount_95d88_50 (by decide) ?_
  refine g_lushr (v := ushrL (((((((x - ((ushrL x 1) &&& 6148914691236517205)) &&& 3689348814741910323) + ((ushrL (x - ((ushrL x 1) &&& 6148914691236517205)) 2) &&& 3689348814741910323)) + (ushrL (((x - ((ushrL x 1) &&& 6148914691236517205)) &&& 3689348814741910323) + ((ushrL (x - ((ushrL x 1) &&& 6148914691236517205)) 2) &&& 3689348814741910323)) 4)) &&& 1085102592571150095) + (ushrL (((((x - ((ushrL x 1) &&& 6148914691236517205)) &&& 3689348814741910323) + ((ushrL (x - ((ushrL x 1) &&& 6148914691236517205)) 2) &&& 3689348814741910323)) + (ushrL (((x - ((ushrL x 1) &&& 6148914691236517205)) &&& 3689348814741910323) + ((ushrL (x - ((ushrL x 1) &&& 6148914691236517205)) 2) &&& 3689348814741910323)) 4)) &&& 1085102592571150095) 8)) + (ushrL ((((((x - ((ushrL x 1) &&& 6148914691236517205)) &&& 3689348814741910323) + ((ushrL (x - ((ushrL x 1) &&& 6148914691236517205)) 2) &&& 3689348814741910323)) + (ushrL (((x - ((ushrL x 1) &&& 6148914691236517205)) &&& 3689348814741910323) + ((ushrL (x - ((ushrL x 1) &&& 6148914691236517205)) 2) &&& 3689348814741910323)) 4)) &&& 1085102592571150095) + (ushrL (((((x - ((ushrL x 1) &&& 6148914691236517205)) &&& 3689348814741910323) + ((ushrL (x - ((ushrL x 1) &&& 6148914691236517205)) 2) &&& 3689348814741910323)) + (ushrL (((x - ((ushrL x 1) &&& 6148914691236517205)) &&& 3689348814741910323) + ((ushrL (x - ((ushrL x 1) &&& 6148914691236517205)) 2) &&& 3689348814741910323)) 4)) &&& 1085102592571150095) 8)) 16)) 32) C dJ13_bitCount_95d88_52 rfl ?_
  refine g_ladd C dJ13_bitCount_95d88_53 ?_
  refine g_lstore_n (i := 0) (lv2 := [(0, .long ((((((((x - ((ushrL x 1) &&& 6148914691236517205)) &&& 3689348814741910323) + ((ushrL (x - ((ushrL x 1) &&& 6148914691236517205)) 2) &&& 3689348814741910323)) + (ushrL (((x - ((ushrL x 1) &&& 6148914691236517205)) &&& 3689348814741910323) + ((ushrL (x - ((ushrL x 1) &&& 6148914691236517205)) 2) &&& 3689348814741910323)) 4)) &&& 1085102592571150095) + (ushrL (((((x - ((ushrL x 1) &&& 6148914691236517205)) &&& 3689348814741910323) + ((ushrL (x - ((ushrL x 1) &&& 6148914691236517205)) 2) &&& 3689348814741910323)) + (ushrL (((x - ((ushrL x 1) &&& 6148914691236517205)) &&& 3689348814741910323) + ((ushrL (x - ((ushrL x 1) &&& 6148914691236517205)) 2) &&& 3689348814741910323)) 4)) &&& 1085102592571150095) 8)) + (ushrL ((((((x - ((ushrL x 1) &&& 6148914691236517205)) &&& 3689348814741910323) + ((ushrL (x - ((ushrL x 1) &&& 6148914691236517205)) 2) &&& 3689348814741910323)) + (ushrL (((x - ((ushrL x 1) &&& 6148914691236517205)) &&& 3689348814741910323) + ((ushrL (x - ((ushrL x 1) &&& 6148914691236517205)) 2) &&& 3689348814741910323)) 4)) &&& 1085102592571150095) + (ushrL (((((x - ((ushrL x 1) &&& 6148914691236517205)) &&& 3689348814741910323) + ((ushrL (x - ((ushrL x 1) &&& 6148914691236517205)) 2) &&& 3689348814741910323)) + (ushrL (((x - ((ushrL x 1) &&& 6148914691236517205)) &&& 3689348814741910323) + ((ushrL (x - ((ushrL x 1) &&& 6148914691236517205)) 2) &&& 3689348814741910323)) 4)) &&& 1085102592571150095) 8)) 16)) + (ushrL (((((((x - ((ushrL x 1) &&& 6148914691236517205)) &&& 3689348814741910323) + ((ushrL (x - ((ushrL x 1) &&& 6148914691236517205)) 2) &&& 3689348814741910323)) + (ushrL (((x - ((ushrL x 1) &&& 6148914691236517205)) &&& 3689348814741910323) + ((ushrL (x - ((ushrL x 1) &&& 6148914691236517205)) 2) &&& 3689348814741910323)) 4)) &&& 1085102592571150095) + (ushrL (((((x - ((ushrL x 1) &&& 6148914691236517205)) &&& 3689348814741910323) + ((ushrL (x - ((ushrL x 1) &&& 6148914691236517205)) 2) &&& 3689348814741910323)) + (ushrL (((x - ((ushrL x 1) &&& 6148914691236517205)) &&& 3689348814741910323) + ((ushrL (x - ((ushrL x 1) &&& 6148914691236517205)) 2) &&& 3689348814741910323)) 4)) &&& 1085102592571150095) 8)) + (ushrL ((((((x - ((ushrL x 1) &&& 6148914691236517205)) &&& 3689348814741910323) + ((ushrL (x - ((ushrL x 1) &&& 6148914691236517205)) 2) &&& 3689348814741910323)) + (ushrL (((x - ((ushrL x 1) &&& 6148914691236517205)) &&& 3689348814741910323) + ((ushrL (x - ((ushrL x 1) &&& 6148914691236517205)) 2) &&& 3689348814741910323)) 4)) &&& 1085102592571150095) + (ushrL (((((x - ((ushrL x 1) &&& 6148914691236517205)) &&& 3689348814741910323) + ((ushrL (x - ((ushrL x 1) &&& 6148914691236517205)) 2) &&& 3689348814741910323)) + (ushrL (((x - ((ushrL x 1) &&& 6148914691236517205)) &&& 3689348814741910323) + ((ushrL (x - ((ushrL x 1) &&& 6148914691236517205)) 2) &&& 3689348814741910323)) 4)) &&& 1085102592571150095) 8)) 16)) 32)))]) C dJ13_bitCount_95d88_54 rfl (by decide) rfl ?_
  refine g_lload_n (i := 0) C dJ13_bitCount_95d88_55 rfl rfl ?_
  refine g_l2i (v := Int64.toInt32 ((((((((x - ((ushrL x 1) &&& 6148914691236517205)) &&& 3689348814741910323) + ((ushrL (x - ((ushrL x 1) &&& 6148914691236517205)) 2) &&& 3689348814741910323)) + (ushrL (((x - ((ushrL x 1) &&& 6148914691236517205)) &&& 3689348814741910323) + ((ushrL (x - ((ushrL x 1) &&& 6148914691236517205)) 2) &&& 3689348814741910323)) 4)) &&& 1085102592571150095) + (ushrL (((((x - ((ushrL x 1) &&& 6148914691236517205)) &&& 3689348814741910323) + ((ushrL (x - ((ushrL x 1) &&& 6148914691236517205)) 2) &&& 3689348814741910323)) + (ushrL (((x - ((ushrL x 1) &&& 6148914691236517205)) &&& 3689348814741910323) + ((ushrL (x - ((ushrL x 1) &&& 6148914691236517205)) 2) &&& 3689348814741910323)) 4)) &&& 1085102592571150095) 8)) + (ushrL ((((((x - ((ushrL x 1) &&& 6148914691236517205)) &&& 3689348814741910323) + ((ushrL (x - ((ushrL x 1) &&& 6148914691236517205)) 2) &&& 3689348814741910323)) + (ushrL (((x - ((ushrL x 1) &&& 6148914691236517205)) &&& 3689348814741910323) + ((ushrL (x - ((ushrL x 1) &&& 6148914691236517205)) 2) &&& 3689348814741910323)) 4)) &&& 1085102592571150095) + (ushrL (((((x - ((ushrL x 1) &&& 6148914691236517205)) &&& 3689348814741910323) + ((ushrL (x - ((ushrL x 1) &&& 6148914691236517205)) 2) &&& 3689348814741910323)) + (ushrL (((x - ((ushrL x 1) &&& 6148914691236517205)) &&& 3689348814741910323) + ((ushrL (x - ((ushrL x 1) &&& 6148914691236517205)) 2) &&& 3689348814741910323)) 4)) &&& 1085102592571150095) 8)) 16)) + (ushrL (((((((x - ((ushrL x 1) &&& 6148914691236517205)) &&& 3689348814741910323) + ((ushrL (x - ((ushrL x 1) &&& 6148914691236517205)) 2) &&& 3689348814741910323)) + (ushrL (((x - ((ushrL x 1) &&& 6148914691236517205)) &&& 3689348814741910323) + ((ushrL (x - ((ushrL x 1) &&& 6148914691236517205)) 2) &&& 3689348814741910323)) 4)) &&& 1085102592571150095) + (ushrL (((((x - ((ushrL x 1) &&& 6148914691236517205)) &&& 3689348814741910323) + ((ushrL (x - ((ushrL x 1) &&& 6148914691236517205)) 2) &&& 3689348814741910323)) + (ushrL (((x - ((ushrL x 1) &&& 6148914691236517205)) &&& 3689348814741910323) + ((ushrL (x - ((ushrL x 1) &&& 6148914691236517205)) 2) &&& 3689348814741910323)) 4)) &&& 1085102592571150095) 8)) + (ushrL ((((((x - ((ushrL x 1) &&& 6148914691236517205)) &&& 3689348814741910323) + ((ushrL (x - ((ushrL x 1) &&& 6148914691236517205)) 2) &&& 3689348814741910323)) + (ushrL (((x - ((ushrL x 1) &&& 6148914691236517205)) &&& 3689348814741910323) + ((ushrL (x - ((ushrL x 1) &&& 6148914691236517205)) 2) &&& 3689348814741910323)) 4)) &&& 1085102592571150095) + (ushrL (((((x - ((ushrL x 1) &&& 6148914691236517205)) &&& 3689348814741910323) + ((ushrL (x - ((ushrL x 1) &&& 6148914691236517205)) 2) &&& 3689348814741910323)) + (ushrL (((x - ((ushrL x 1) &&& 6148914691236517205)) &&& 3689348814741910323) + ((ushrL (x - ((ushrL x 1) &&& 6148914691236517205)) 2) &&& 3689348814741910323)) 4)) &&& 1085102592571150095) 8)) 16)) 32))) C dJ13_bitCount_95d88_56 rfl ?_
  refine g_bipush (v := 127) C dJ13_bitCount_95d88_57 (by decide) ?_
  refine g_iand C dJ13_bitCount_95d88_59 ?_
  exact hR _ _ _ _ () dJ13_bitCount_95d88_60 (rfl) (rfl)

set_option maxHeartbeats 600000 in
set_option maxRecDepth 100000 in
theorem kJ6_bitCount_0f7a4 (K : KT) (Wd : va_W) (x : Int32) : ∀ lau : Launch, Con lau yJ6_bitCount_0f7a4 cJ6_bitCount_0f7a4 1 (some .int) 0 0 K Wd (fun _ : Unit => Wd) [.int x] (some (.int (bcI x))) := by
  refine conI (by decide) (Nat.le_of_ble_eq_true rfl) (fun E C hR => ?_)
  show G E K 0 0 Wd [(0, .int x)] 0 []
  refine g_iload_n (i := 0) C dJ6_bitCount_0f7a4_0 rfl rfl ?_
  refine g_iload_n (i := 0) C dJ6_bitCount_0f7a4_1 rfl rfl ?_
  refine g_iconst (v := 1) C dJ6_bitCount_0f7a4_2 (by decide) ?_
  refine g_iushr (v := ushrI x 1) C dJ6_bitCount_0f7a4_3 rfl ?_
  refine g_ldcw (v := 1431655765) C dJ6_bitCount_0f7a4_4 kc_J6_265 ?_
  refine g_iand C dJ6_bitCount_0f7a4_7 ?_
  refine g_isub C dJ6_bitCount_0f7a4_8 ?_
  refine g_istore_n (i := 0) (lv2 := [(0, .int (x - ((ushrI x 1) &&& 1431655765)))]) C dJ6_bitCount_0f7a4_9 rfl (by decide) rfl ?_
  refine g_iload_n (i := 0) C dJ6_bitCount_0f7a4_10 rfl rfl ?_
  refine g_ldcw (v := 858993459) C dJ6_bitCount_0f7a4_11 kc_J6_266 ?_
  refine g_iand C dJ6_bitCount_0f7a4_14 ?_
  refine g_iload_n (i := 0) C dJ6_bitCount_0f7a4_15 rfl rfl ?_
  refine g_iconst (v := 2) C dJ6_bitCount_0f7a4_16 (by decide) ?_
  refine g_iushr (v := ushrI (x - ((ushrI x 1) &&& 1431655765)) 2) C dJ6_bitCount_0f7a4_17 rfl ?_
  refine g_ldcw (v := 858993459) C dJ6_bitCount_0f7a4_18 kc_J6_266 ?_
  refine g_iand C dJ6_bitCount_0f7a4_21 ?_
  refine g_iadd C dJ6_bitCount_0f7a4_22 ?_
  refine g_istore_n (i := 0) (lv2 := [(0, .int (((x - ((ushrI x 1) &&& 1431655765)) &&& 858993459) + ((ushrI (x - ((ushrI x 1) &&& 1431655765)) 2) &&& 858993459)))]) C dJ6_bitCount_0f7a4_23 rfl (by decide) rfl ?_
  refine g_iload_n (i := 0) C dJ6_bitCount_0f7a4_24 rfl rfl ?_
  refine g_iload_n (i := 0) C dJ6_bitCount_0f7a4_25 rfl rfl ?_
  refine g_iconst (v := 4) C dJ6_bitCount_0f7a4_26 (by decide) ?_
  refine g_iushr (v := ushrI (((x - ((ushrI x 1) &&& 1431655765)) &&& 858993459) + ((ushrI (x - ((ushrI x 1) &&& 1431655765)) 2) &&& 858993459)) 4) C dJ6_bitCount_0f7a4_27 rfl ?_
  refine g_iadd C dJ6_bitCount_0f7a4_28 ?_
  refine g_ldcw (v := 252645135) C dJ6_bitCount_0f7a4_29 kc_J6_267 ?_
  refine g_iand C dJ6_bitCount_0f7a4_32 ?_
  refine g_istore_n (i := 0) (lv2 := [(0, .int (((((x - ((ushrI x 1) &&& 1431655765)) &&& 858993459) + ((ushrI (x - ((ushrI x 1) &&& 1431655765)) 2) &&& 858993459)) + (ushrI (((x - ((ushrI x 1) &&& 1431655765)) &&& 858993459) + ((ushrI (x - ((ushrI x 1) &&& 1431655765)) 2) &&& 858993459)) 4)) &&& 252645135))]) C dJ6_bitCount_0f7a4_33 rfl (by decide) rfl ?_
  refine g_iload_n (i := 0) C dJ6_bitCount_0f7a4_34 rfl rfl ?_
  refine g_iload_n (i := 0) C dJ6_bitCount_0f7a4_35 rfl rfl ?_
  refine g_bipush (v := 8) C dJ6_bitCount_0f7a4_36 (by decide) ?_
  refine g_iushr (v := ushrI (((((x - ((ushrI x 1) &&& 1431655765)) &&& 858993459) + ((ushrI (x - ((ushrI x 1) &&& 1431655765)) 2) &&& 858993459)) + (ushrI (((x - ((ushrI x 1) &&& 1431655765)) &&& 858993459) + ((ushrI (x - ((ushrI x 1) &&& 1431655765)) 2) &&& 858993459)) 4)) &&& 252645135) 8) C dJ6_bitCount_0f7a4_38 rfl ?_
  refine g_iadd C dJ6_bitCount_0f7a4_39 ?_
  refine g_istore_n (i := 0) (lv2 := [(0, .int ((((((x - ((ushrI x 1) &&& 1431655765)) &&& 858993459) + ((ushrI (x - ((ushrI x 1) &&& 1431655765)) 2) &&& 858993459)) + (ushrI (((x - ((ushrI x 1) &&& 1431655765)) &&& 858993459) + ((ushrI (x - ((ushrI x 1) &&& 1431655765)) 2) &&& 858993459)) 4)) &&& 252645135) + (ushrI (((((x - ((ushrI x 1) &&& 1431655765)) &&& 858993459) + ((ushrI (x - ((ushrI x 1) &&& 1431655765)) 2) &&& 858993459)) + (ushrI (((x - ((ushrI x 1) &&& 1431655765)) &&& 858993459) + ((ushrI (x - ((ushrI x 1) &&& 1431655765)) 2) &&& 858993459)) 4)) &&& 252645135) 8)))]) C dJ6_bitCount_0f7a4_40 rfl (by decide) rfl ?_
  refine g_iload_n (i := 0) C dJ6_bitCount_0f7a4_41 rfl rfl ?_
  refine g_iload_n (i := 0) C dJ6_bitCount_0f7a4_42 rfl rfl ?_
  refine g_bipush (v := 16) C dJ6_bitCount_0f7a4_43 (by decide) ?_
  refine g_iushr (v := ushrI ((((((x - ((ushrI x 1) &&& 1431655765)) &&& 858993459) + ((ushrI (x - ((ushrI x 1) &&& 1431655765)) 2) &&& 858993459)) + (ushrI (((x - ((ushrI x 1) &&& 1431655765)) &&& 858993459) + ((ushrI (x - ((ushrI x 1) &&& 1431655765)) 2) &&& 858993459)) 4)) &&& 252645135) + (ushrI (((((x - ((ushrI x 1) &&& 1431655765)) &&& 858993459) + ((ushrI (x - ((ushrI x 1) &&& 1431655765)) 2) &&& 858993459)) + (ushrI (((x - ((ushrI x 1) &&& 1431655765)) &&& 858993459) + ((ushrI (x - ((ushrI x 1) &&& 1431655765)) 2) &&& 858993459)) 4)) &&& 252645135) 8)) 16) C dJ6_bitCount_0f7a4_45 rfl ?_
  refine g_iadd C dJ6_bitCount_0f7a4_46 ?_
  refine g_istore_n (i := 0) (lv2 := [(0, .int (((((((x - ((ushrI x 1) &&& 1431655765)) &&& 858993459) + ((ushrI (x - ((ushrI x 1) &&& 1431655765)) 2) &&& 858993459)) + (ushrI (((x - ((ushrI x 1) &&& 1431655765)) &&& 858993459) + ((ushrI (x - ((ushrI x 1) &&& 1431655765)) 2) &&& 858993459)) 4)) &&& 252645135) + (ushrI (((((x - ((ushrI x 1) &&& 1431655765)) &&& 858993459) + ((ushrI (x - ((ushrI x 1) &&& 1431655765)) 2) &&& 858993459)) + (ushrI (((x - ((ushrI x 1) &&& 1431655765)) &&& 858993459) + ((ushrI (x - ((ushrI x 1) &&& 1431655765)) 2) &&& 858993459)) 4)) &&& 252645135) 8)) + (ushrI ((((((x - ((ushrI x 1) &&& 1431655765)) &&& 858993459) + ((ushrI (x - ((ushrI x 1) &&& 1431655765)) 2) &&& 858993459)) + (ushrI (((x - ((ushrI x 1) &&& 1431655765)) &&& 858993459) + ((ushrI (x - ((ushrI x 1) &&& 1431655765)) 2) &&& 858993459)) 4)) &&& 252645135) + (ushrI (((((x - ((ushrI x 1) &&& 1431655765)) &&& 858993459) + ((ushrI (x - ((ushrI x 1) &&& 1431655765)) 2) &&& 858993459)) + (ushrI (((x - ((ushrI x 1) &&& 1431655765)) &&& 858993459) + ((ushrI (x - ((ushrI x 1) &&& 1431655765)) 2) &&& 858993459)) 4)) &&& 252645135) 8)) 16)))]) C dJ6_bitCount_0f7a4_47 rfl (by decide) rfl ?_
  refine g_iload_n (i := 0) C dJ6_bitCount_0f7a4_48 rfl rfl ?_
  refine g_bipush (v := 63) C dJ6_bitCount_0f7a4_49 (by decide) ?_
  refine g_iand C dJ6_bitCount_0f7a4_51 ?_
  exact hR _ _ _ _ () dJ6_bitCount_0f7a4_52 (rfl) (rfl)

set_option maxHeartbeats 600000 in
set_option maxRecDepth 100000 in
theorem kX1_isPowerOfTwo (K : KT) (Wd : va_W) (x : Int64) : ∀ lau : Launch, Con lau yX1_isPowerOfTwo cX1_isPowerOfTwo 2 (some .boolean) 1 21 K Wd (fun _ : Unit => Wd) [.long x] (some (.int (bz (isP2 x)))) := by
  refine conZ (by decide) (Nat.le_of_ble_eq_true rfl) (fun E C hR => ?_)
  show G E K 0 0 Wd [(0, .long x)] 0 []
  refine g_lload_n (i := 0) C dX1_isPowerOfTwo_0 rfl rfl ?_
  refine g_mabsL C dX1_isPowerOfTwo_1 ln_X1_162 ma_mabsL_s it_J9 ma_mabsL_c (Nat.le_of_ble_eq_true rfl) (Nat.le_of_ble_eq_true rfl) (Nat.le_refl _) (Nat.le_refl _) ?_
  refine g_callS (av := [.long (if 0 < x then x else -x)]) C dX1_isPowerOfTwo_4 ln_X1_168 mf_J13_bitCount_95d88 (kJ13_bitCount_95d88 K Wd (if 0 < x then x else -x)) rfl rfl (Nat.le_of_ble_eq_true rfl) ⟨Nat.le_of_ble_eq_true rfl, Nat.le_of_ble_eq_true rfl⟩ ⟨Nat.zero_le _, Nat.zero_le _⟩ (fun _ => ?_)
  refine g_iconst (v := 1) C dX1_isPowerOfTwo_7 (by decide) ?_
  refine g_dia_icmp_ne (tgt := 15) C dX1_isPowerOfTwo_8 dX1_isPowerOfTwo_11 dX1_isPowerOfTwo_12 dX1_isPowerOfTwo_15 (by decide) (by decide) trivial ?_
  exact hR _ _ _ _ () dX1_isPowerOfTwo_16 (rfl) (rfl)

set_option maxHeartbeats 600000 in
set_option maxRecDepth 100000 in
theorem kX1_halvings (K : KT) (Wd : va_W) (x : Int64) : ∀ lau : Launch, Con lau yX1_halvings cX1_halvings 2 (some .int) 1 21 K Wd (fun _ : Unit => Wd) [.long x] (some (.int (halv x))) := by
  refine conI (by decide) (Nat.le_of_ble_eq_true rfl) (fun E C hR => ?_)
  show G E K 0 0 Wd [(0, .long x)] 0 []
  refine g_lload_n (i := 0) C dX1_halvings_0 rfl rfl ?_
  refine g_lload_n (i := 0) C dX1_halvings_1 rfl rfl ?_
  refine g_lneg C dX1_halvings_2 ?_
  refine g_land C dX1_halvings_3 ?_
  refine g_lconst (v := 1) C dX1_halvings_4 (by decide) ?_
  refine g_lsub C dX1_halvings_5 ?_
  refine g_callS (av := [.long ((x &&& (-x)) - 1)]) C dX1_halvings_6 ln_X1_168 mf_J13_bitCount_95d88 (kJ13_bitCount_95d88 K Wd ((x &&& (-x)) - 1)) rfl rfl (Nat.le_of_ble_eq_true rfl) ⟨Nat.le_of_ble_eq_true rfl, Nat.le_of_ble_eq_true rfl⟩ ⟨Nat.zero_le _, Nat.zero_le _⟩ (fun _ => ?_)
  exact hR _ _ _ _ () dX1_halvings_9 (rfl) (rfl)

set_option maxHeartbeats 600000 in
set_option maxRecDepth 100000 in
theorem kX1_leastBelow (K : KT) (Wd : va_W) (x : Int64) (y : Int32) : ∀ lau : Launch, Con lau yX1_leastBelow cX1_leastBelow 3 (some .int) 2 42 K Wd (fun _ : Unit => Wd) [.long x, .int y] (some (.int (lBel x y))) := by
  refine conI (by decide) (Nat.le_of_ble_eq_true rfl) (fun E C hR => ?_)
  show G E K 0 0 Wd [(0, .long x), (2, .int y)] 0 []
  refine g_iconst (v := 0) C dX1_leastBelow_0 (by decide) ?_
  refine g_iload_n (i := 2) C dX1_leastBelow_1 rfl rfl ?_
  refine g_lload_n (i := 0) C dX1_leastBelow_2 rfl rfl ?_
  refine g_callS (av := [.long x]) C dX1_leastBelow_3 ln_X1_172 mf_X1_halvings (kX1_halvings K Wd x) rfl rfl (Nat.le_of_ble_eq_true rfl) ⟨Nat.le_of_ble_eq_true rfl, Nat.le_of_ble_eq_true rfl⟩ ⟨Nat.zero_le _, Nat.zero_le _⟩ (fun _ => ?_)
  refine g_isub C dX1_leastBelow_6 ?_
  refine g_mmax C dX1_leastBelow_7 ln_X1_175 ma_mmax_s it_J9 ma_mmax_c (Nat.le_of_ble_eq_true rfl) (Nat.le_of_ble_eq_true rfl) (Nat.le_refl _) (Nat.le_refl _) ?_
  exact hR _ _ _ _ () dX1_leastBelow_10 (rfl) (rfl)

set_option maxHeartbeats 600000 in
set_option maxRecDepth 100000 in
theorem kX1_leastAbove (K : KT) (Wd : va_W) (x : Int64) (y : Int32) : ∀ lau : Launch, Con lau yX1_leastAbove cX1_leastAbove 3 (some .int) 3 64 K Wd (fun _ : Unit => Wd) [.long x, .int y] (some (.int (lAbo x y))) := by
  refine conI (by decide) (Nat.le_of_ble_eq_true rfl) (fun E C hR => ?_)
  show G E K 0 0 Wd [(0, .long x), (2, .int y)] 0 []
  refine g_lload_n (i := 0) C dX1_leastAbove_0 rfl rfl ?_
  refine g_iload_n (i := 2) C dX1_leastAbove_1 rfl rfl ?_
  refine g_lload_n (i := 0) C dX1_leastAbove_2 rfl rfl ?_
  refine g_iload_n (i := 2) C dX1_leastAbove_3 rfl rfl ?_
  refine g_callS (av := [.long x, .int y]) C dX1_leastAbove_4 ln_X1_65 mf_X1_leastBelow (kX1_leastBelow K Wd x y) rfl rfl (Nat.le_of_ble_eq_true rfl) ⟨Nat.le_of_ble_eq_true rfl, Nat.le_of_ble_eq_true rfl⟩ ⟨Nat.zero_le _, Nat.zero_le _⟩ (fun _ => ?_)
  refine g_isub C dX1_leastAbove_7 ?_
  refine g_lshr (v := shrL x (y - (lBel x y))) C dX1_leastAbove_8 rfl ?_
  refine g_l2i (v := Int64.toInt32 (shrL x (y - (lBel x y)))) C dX1_leastAbove_9 rfl ?_
  exact hR _ _ _ _ () dX1_leastAbove_10 (rfl) (rfl)

set_option maxHeartbeats 600000 in
set_option maxRecDepth 100000 in
theorem kX1_factorOf (K : KT) (Wd : va_W) (x : Int64) (y : Int32) : ∀ lau : Launch, Con lau yX1_factorOf cX1_factorOf 6 (some .long) 3 64 K Wd (fun _ : Unit => Wd) [.long x, .int y] (some (.long (facO x y))) := by
  refine conL (by decide) (Nat.le_of_ble_eq_true rfl) (fun E C hR => ?_)
  show G E K 0 0 Wd [(0, .long x), (2, .int y)] 0 []
  refine g_lload_n (i := 0) C dX1_factorOf_0 rfl rfl ?_
  refine g_iload_n (i := 2) C dX1_factorOf_1 rfl rfl ?_
  refine g_callS (av := [.long x, .int y]) C dX1_factorOf_2 ln_X1_65 mf_X1_leastBelow (kX1_leastBelow K Wd x y) rfl rfl (Nat.le_of_ble_eq_true rfl) ⟨Nat.le_of_ble_eq_true rfl, Nat.le_of_ble_eq_true rfl⟩ ⟨Nat.zero_le _, Nat.zero_le _⟩ (fun _ => ?_)
  refine g_istore_n (i := 3) (lv2 := [(0, .long x), (2, .int y), (3, .int (lBel x y))]) C dX1_factorOf_5 rfl (by decide) rfl ?_
  refine g_lload_n (i := 0) C dX1_factorOf_6 rfl rfl ?_
  refine g_iload_n (i := 2) C dX1_factorOf_7 rfl rfl ?_
  refine g_iload_n (i := 3) C dX1_factorOf_8 rfl rfl ?_
  refine g_isub C dX1_factorOf_9 ?_
  refine g_lshr (v := shrL x (y - (lBel x y))) C dX1_factorOf_10 rfl ?_
  refine g_lstore (lv2 := [(0, .long x), (2, .int y), (3, .int (lBel x y)), (4, .long (shrL x (y - (lBel x y))))]) C dX1_factorOf_11 (by decide) rfl ?_
  refine g_iload_n (i := 3) C dX1_factorOf_13 rfl rfl ?_
  refine g_bipush (v := 20) C dX1_factorOf_14 (by decide) ?_
  refine g_icmp_gt (tgt := 37) C dX1_factorOf_16 (by decide) (fun c16_1 => ?_) (fun c16_1 => ?_)
  · skip
    refine g_ldc2 (v := 1152921504606846976) C dX1_factorOf_37 kc_X1_159 ?_
    exact hR _ _ _ _ () dX1_factorOf_40 (by simp [facO, c16_1]) (rfl)
  · skip
    refine g_lload C dX1_factorOf_19 rfl ?_
    refine g_ldc2 (v := (-1000000000)) C dX1_factorOf_21 kc_X1_178 ?_
    refine g_lcmp_lt (tgt := 37) C dX1_factorOf_24 dX1_factorOf_25 (by decide) (fun c24_2 => ?_) (fun c24_2 => ?_)
    · skip
      refine g_ldc2 (v := 1152921504606846976) C dX1_factorOf_37 kc_X1_159 ?_
      exact hR _ _ _ _ () dX1_factorOf_40 (by simp [facO, c16_1, c24_2]) (rfl)
    · skip
      refine g_lload C dX1_factorOf_28 rfl ?_
      refine g_ldc2 (v := 1000000000) C dX1_factorOf_30 kc_X1_180 ?_
      refine g_lcmp_le (tgt := 41) C dX1_factorOf_33 dX1_factorOf_34 (by decide) (fun c33_3 => ?_) (fun c33_3 => ?_)
      · skip
        refine g_lload C dX1_factorOf_41 rfl ?_
        refine g_bipush (v := 20) C dX1_factorOf_43 (by decide) ?_
        refine g_iload_n (i := 3) C dX1_factorOf_45 rfl rfl ?_
        refine g_isub C dX1_factorOf_46 ?_
        refine g_lshl (v := shlL (shrL x (y - (lBel x y))) (20 - (lBel x y))) C dX1_factorOf_47 rfl ?_
        exact hR _ _ _ _ () dX1_factorOf_48 (by simp [facO, c16_1, c24_2, c33_3]) (rfl)
      · skip
        refine g_ldc2 (v := 1152921504606846976) C dX1_factorOf_37 kc_X1_159 ?_
        exact hR _ _ _ _ () dX1_factorOf_40 (by simp [facO, c16_1, c24_2, c33_3]) (rfl)

set_option maxHeartbeats 600000 in
set_option maxRecDepth 100000 in
theorem kX1_factorProduct (K : KT) (Wd : va_W) (x : Int64) (y : Int64) : ∀ lau : Launch, Con lau yX1_factorProduct cX1_factorProduct 6 (some .long) 4 89 K Wd (fun _ : Unit => Wd) [.long x, .long y] (some (.long (facP x y))) := by
  refine conL (by decide) (Nat.le_of_ble_eq_true rfl) (fun E C hR => ?_)
  show G E K 0 0 Wd [(0, .long x), (2, .long y)] 0 []
  refine g_lload_n (i := 0) C dX1_factorProduct_0 rfl rfl ?_
  refine g_bipush (v := 20) C dX1_factorProduct_1 (by decide) ?_
  refine g_callS (av := [.long x, .int 20]) C dX1_factorProduct_3 ln_X1_61 mf_X1_leastAbove (kX1_leastAbove K Wd x 20) rfl rfl (Nat.le_of_ble_eq_true rfl) ⟨Nat.le_of_ble_eq_true rfl, Nat.le_of_ble_eq_true rfl⟩ ⟨Nat.zero_le _, Nat.zero_le _⟩ (fun _ => ?_)
  refine g_i2l (v := Int32.toInt64 (lAbo x 20)) C dX1_factorProduct_6 rfl ?_
  refine g_lload_n (i := 2) C dX1_factorProduct_7 rfl rfl ?_
  refine g_bipush (v := 20) C dX1_factorProduct_8 (by decide) ?_
  refine g_callS (av := [.long y, .int 20]) C dX1_factorProduct_10 ln_X1_61 mf_X1_leastAbove (kX1_leastAbove K Wd y 20) rfl rfl (Nat.le_of_ble_eq_true rfl) ⟨Nat.le_of_ble_eq_true rfl, Nat.le_of_ble_eq_true rfl⟩ ⟨Nat.zero_le _, Nat.zero_le _⟩ (fun _ => ?_)
  refine g_i2l (v := Int32.toInt64 (lAbo y 20)) C dX1_factorProduct_13 rfl ?_
  refine g_lmul C dX1_factorProduct_14 ?_
  refine g_lstore (lv2 := [(0, .long x), (2, .long y), (4, .long ((Int32.toInt64 (lAbo x 20)) * (Int32.toInt64 (lAbo y 20))))]) C dX1_factorProduct_15 (by decide) rfl ?_
  refine g_lload C dX1_factorProduct_17 rfl ?_
  refine g_lload_n (i := 0) C dX1_factorProduct_19 rfl rfl ?_
  refine g_bipush (v := 20) C dX1_factorProduct_20 (by decide) ?_
  refine g_callS (av := [.long x, .int 20]) C dX1_factorProduct_22 ln_X1_65 mf_X1_leastBelow (kX1_leastBelow K Wd x 20) rfl rfl (Nat.le_of_ble_eq_true rfl) ⟨Nat.le_of_ble_eq_true rfl, Nat.le_of_ble_eq_true rfl⟩ ⟨Nat.zero_le _, Nat.zero_le _⟩ (fun _ => ?_)
  refine g_lload_n (i := 2) C dX1_factorProduct_25 rfl rfl ?_
  refine g_bipush (v := 20) C dX1_factorProduct_26 (by decide) ?_
  refine g_callS (av := [.long y, .int 20]) C dX1_factorProduct_28 ln_X1_65 mf_X1_leastBelow (kX1_leastBelow K Wd y 20) rfl rfl (Nat.le_of_ble_eq_true rfl) ⟨Nat.le_of_ble_eq_true rfl, Nat.le_of_ble_eq_true rfl⟩ ⟨Nat.zero_le _, Nat.zero_le _⟩ (fun _ => ?_)
  refine g_iadd C dX1_factorProduct_31 ?_
  refine g_callS (av := [.long ((Int32.toInt64 (lAbo x 20)) * (Int32.toInt64 (lAbo y 20))), .int ((lBel x 20) + (lBel y 20))]) C dX1_factorProduct_32 ln_X1_123 mf_X1_factorOf (kX1_factorOf K Wd ((Int32.toInt64 (lAbo x 20)) * (Int32.toInt64 (lAbo y 20))) ((lBel x 20) + (lBel y 20))) rfl rfl (Nat.le_of_ble_eq_true rfl) ⟨Nat.le_of_ble_eq_true rfl, Nat.le_of_ble_eq_true rfl⟩ ⟨Nat.zero_le _, Nat.zero_le _⟩ (fun _ => ?_)
  exact hR _ _ _ _ () dX1_factorProduct_35 (rfl) (rfl)

set_option maxHeartbeats 600000 in
set_option maxRecDepth 100000 in
theorem kX1_factorQuotient (K : KT) (Wd : va_W) (x : Int64) (y : Int64) : ∀ lau : Launch, Con lau yX1_factorQuotient cX1_factorQuotient 4 (some .long) 4 89 K Wd (fun _ : Unit => Wd) [.long x, .long y] (some (.long (facQ x y))) := by
  refine conL (by decide) (Nat.le_of_ble_eq_true rfl) (fun E C hR => ?_)
  show G E K 0 0 Wd [(0, .long x), (2, .long y)] 0 []
  refine g_lload_n (i := 2) C dX1_factorQuotient_0 rfl rfl ?_
  refine g_lconst (v := 0) C dX1_factorQuotient_1 (by decide) ?_
  refine g_lcmp_ge (tgt := 11) C dX1_factorQuotient_2 dX1_factorQuotient_3 (by decide) (fun c2_1 => ?_) (fun c2_1 => ?_)
  · skip
    refine g_lload_n (i := 0) C dX1_factorQuotient_11 rfl rfl ?_
    refine g_lload_n (i := 2) C dX1_factorQuotient_12 rfl rfl ?_
    refine g_callS (av := [.long y]) C dX1_factorQuotient_13 ln_X1_172 mf_X1_halvings (kX1_halvings K Wd y) rfl rfl (Nat.le_of_ble_eq_true rfl) ⟨Nat.le_of_ble_eq_true rfl, Nat.le_of_ble_eq_true rfl⟩ ⟨Nat.zero_le _, Nat.zero_le _⟩ (fun _ => ?_)
    refine g_callS (av := [.long x, .int (halv y)]) C dX1_factorQuotient_16 ln_X1_123 mf_X1_factorOf (kX1_factorOf K Wd x (halv y)) rfl rfl (Nat.le_of_ble_eq_true rfl) ⟨Nat.le_of_ble_eq_true rfl, Nat.le_of_ble_eq_true rfl⟩ ⟨Nat.zero_le _, Nat.zero_le _⟩ (fun _ => ?_)
    exact hR _ _ _ _ () dX1_factorQuotient_19 (by simp [facQ, c2_1]) (rfl)
  · skip
    refine g_lload_n (i := 0) C dX1_factorQuotient_6 rfl rfl ?_
    refine g_lneg C dX1_factorQuotient_7 ?_
    refine g_goto (tgt := 12) C dX1_factorQuotient_8 (by decide) ?_
    refine g_lload_n (i := 2) C dX1_factorQuotient_12 rfl rfl ?_
    refine g_callS (av := [.long y]) C dX1_factorQuotient_13 ln_X1_172 mf_X1_halvings (kX1_halvings K Wd y) rfl rfl (Nat.le_of_ble_eq_true rfl) ⟨Nat.le_of_ble_eq_true rfl, Nat.le_of_ble_eq_true rfl⟩ ⟨Nat.zero_le _, Nat.zero_le _⟩ (fun _ => ?_)
    refine g_callS (av := [.long (-x), .int (halv y)]) C dX1_factorQuotient_16 ln_X1_123 mf_X1_factorOf (kX1_factorOf K Wd (-x) (halv y)) rfl rfl (Nat.le_of_ble_eq_true rfl) ⟨Nat.le_of_ble_eq_true rfl, Nat.le_of_ble_eq_true rfl⟩ ⟨Nat.zero_le _, Nat.zero_le _⟩ (fun _ => ?_)
    exact hR _ _ _ _ () dX1_factorQuotient_19 (by simp [facQ, c2_1]) (rfl)
