theorem Rel_setz {S : CS} {N : MSt} (hR : Rel S N) {z j : Nat} (hz : z < 8) (hj : j < 13) {f u : Int64} {v : Int32} (h : PF f u v) {F : Nat → Nat → Int64} (hF : ∀ y, y < 8 → y ≠ z → F y = fC S y) (hF2 : F z = vp_updL (fC S z) j f) (fd fs : Int32) (pu : Int64) (pd : Int32) : Rel (sF S F) (N.1, N.2.1, N.2.2.1, N.2.2.2.1, vp_updL (abM N) (13 * z + j) u, upd (blM N) (13 * z + j) v, fd, fs, pu, pd) := by
  have hs := SR_set (j := j) (hR.sr hz) h fd fs pu pd
  obtain ⟨n, n1, n2, n3, n4, _⟩ := h
  refine ⟨hR.1, hR.2.1, hR.2.2.1, hR.2.2.2.1, hR.2.2.2.2.1, hR.2.2.2.2.2.1, ?_, ?_, ?_⟩
  · intro i hi
    show ∃ b, b ≤ 20 ∧ upd (blM N) (13 * z + j) v i = nI b
    unfold upd
    by_cases q : i = 13 * z + j
    · rw [if_pos q]; exact ⟨n, n1, n2⟩
    · rw [if_neg q]; exact hR.hB i hi
  · intro i hi
    show -1000000000 ≤ (vp_updL (abM N) (13 * z + j) u i).toInt ∧ (vp_updL (abM N) (13 * z + j) u i).toInt ≤ 1000000000
    unfold vp_updL
    by_cases q : i = 13 * z + j
    · rw [if_pos q]; exact ⟨n3, n4⟩
    · rw [if_neg q]; exact hR.hA i hi
  · intro y hy i hi
    by_cases q : y = z
    · subst q
      show PF (F y i) _ _
      rw [hF2]; exact hs i hi
    · show PF (F y i) (vp_updL (abM N) (13 * z + j) u (13 * y + i)) (upd (blM N) (13 * z + j) v (13 * y + i))
      rw [hF y hy q]
      unfold vp_updL upd
      rw [if_neg (by omega), if_neg (by omega)]
      exact hR.pf hy hi
theorem Rel_clr {S : CS} {N : MSt} (hR : Rel S N) {F : Nat → Nat → Int64} {z : Nat} {h : Nat → Int64} (hF : ∀ y, y < 8 → y ≠ z → F y = fC S y) (hz : F z = cpyG (fun _ => 0) h 13) : Rel (sF S F) (mCpN N z) := by
  refine ⟨hR.1, hR.2.1, hR.2.2.1, hR.2.2.2.1, hR.2.2.2.2.1, hR.2.2.2.2.2.1, HB_cpN hR.hB, HA_cpN hR.hA, ?_⟩
  intro y hy i hi
  by_cases q : y = z
  · subst q
    show PF (F y i) _ _
    rw [hz]
    exact SR_cpN i hi
  · show PF (F y i) (cpN (abM N) z 0 13 (13 * y + i)) (cpN (blM N) z 0 13 (13 * y + i))
    rw [hF y hy q, cpN_out (by omega), cpN_out (by omega)]
    exact hR.pf hy hi
theorem eq_term {S : CS} {M : MSt} (hR : Rel S M) (a1 a2 a3 a4 : Int32) : (cTerm S a1 a2 a3 a4).1 = (mTerm M a1 a2 a3 a4).1 ∧ Rel (cTerm S a1 a2 a3 a4).2 (mTerm M a1 a2 a3 a4).2 := by
  unfold cTerm mTerm
  rw [isEx_eq, ← isFr_eq]
  cases h1 : isSm a1 with
  | false => rw [cond_false, cond_false]; exact ⟨rfl, hR⟩
  | true =>
    rw [cond_true, cond_true]
    cases h2 : isEx a2 with
    | false => rw [cond_false, cond_false]; exact ⟨rfl, hR⟩
    | true =>
      rw [cond_true, cond_true]
      cases h3 : inL a3.toInt64 (-1000000000) 1000000000 with
      | false => rw [cond_false, cond_false, cond_false]; exact ⟨rfl, hR⟩
      | true =>
        rw [cond_true, cond_true]
        cases h4 : inL a4.toInt64 0 20 with
        | false => rw [cond_false, cond_false]; exact ⟨rfl, hR⟩
        | true =>
          rw [cond_true, cond_true]
          have hf : isFr a3 a4 = true := by rw [← isFr_eq, h3, cond_true, h4]
          obtain ⟨b1, b2, k, hk, ek⟩ := isFr_b hf
          obtain ⟨j, hj, ej, ec⟩ := e_slot (e := a2) (by rw [isEx_eq]; exact h2)
          have ei : a3.toInt64.toInt = a3.toInt := Int32.toInt_toInt64 a3
          have ub := rd_ub (K := k) (X := a3.toInt64)
          have hd := (rd_spec k a3.toInt64).1
          have hp : plM a3.toInt64 k = true := (pl_iff (by omega)).mpr ⟨by omega, by omega, by omega⟩
          have t1 := (facO_t (x := a3.toInt64) (k := k) (by omega) hp).1
          have hz := sm_lt h1
          have hR2 : Rel (cT1 S a1 a2 a3 a4) (mT1 M (13 * a1.toNatClampNeg + j) a3.toInt64 k) := by
            unfold cT1 mT1
            rw [ec, ek]
            exact Rel_setz hR hz hj t1 (fun y _ q => uF_n q) uF_s _ _ _ _
          have ekc : a4.toNatClampNeg = k := by rw [ek, nI_clamp (by omega)]
          rw [ec, ekc]
          exact ⟨cnt_eq (hR2.sr hz).z 13 (Nat.le_refl _), hR2⟩
theorem sumE_eq {S : CS} {z : Int32} (hz : isSm z = true) {r : Bool × (Nat → Int64)} {q : Bool × MSt} (h1 : r.1 = q.1) (hR : Rel S q.2) (hg : SR r.2 q.2 9) : (sumE S z r).1 = (mSE z q).1 ∧ Rel (sumE S z r).2 (mSE z q).2 := by
  obtain ⟨b, g⟩ := r
  obtain ⟨b', N⟩ := q
  have h2 : b = b' := h1
  subst h2
  unfold sumE mSE
  cases b with
  | false =>
    rw [cond_false, cond_false]
    exact ⟨rfl, Rel_F hR fun y hy => uF_n (by omega)⟩
  | true =>
    rw [cond_true, cond_true]
    have hz8 := sm_lt hz
    have e1 : fC (cS8 S g) 8 = g := show uF (fC S) 8 g 8 = g from uF_s
    have hR2 : Rel (cE1 (cS8 S g) z.toNatClampNeg) (mCpF N z.toNatClampNeg 9) := by
      unfold cE1
      rw [e1]
      exact Rel_into (S := S) hR (by decide) hg (fun y hy q => (uF_n q).trans (uF_n (by omega))) uF_s
    refine ⟨?_, hR2⟩
    rw [e1]
    exact cnt_eq (SR_cpF hg).z 13 (Nat.le_refl _)
theorem add_eq {S : CS} {M : MSt} (hR : Rel S M) {x y : Int32} (hx : isSm x = true) (hy : isSm y = true) {less : Bool} {sn : Int64} (hs : sn = bif less then -1 else 1) : (sumT S x y less).1 = (mAdd M x.toNatClampNeg y.toNatClampNeg sn).1 ∧ Rel S (mAdd M x.toNatClampNeg y.toNatClampNeg sn).2 ∧ SR (sumT S x y less).2 (mAdd M x.toNatClampNeg y.toNatClampNeg sn).2 9 := by
  unfold sumT mAdd
  have h8 := sm_lt hx
  exact ad_eq (sm_lt hy) hs 13 (Nat.le_refl _) _ _ (Rel_cpF hR (by decide) (by omega)) (SR_cpF (hR.sr h8))
theorem pro_eq {S : CS} {M : MSt} (hR : Rel S M) {x y : Int32} (hx : isSm x = true) (hy : isSm y = true) : (sumP S x y).1 = (mPro M x.toNatClampNeg y.toNatClampNeg).1 ∧ Rel S (mPro M x.toNatClampNeg y.toNatClampNeg).2 ∧ SR (sumP S x y).2 (mPro M x.toNatClampNeg y.toNatClampNeg).2 9 := by
  unfold sumP mPro
  exact po_eq (sm_lt hx) (sm_lt hy) 13 (Nat.le_refl _) _ _ (Rel_cpN hR (by decide)) SR_cpN
theorem how2 {h : Int32} (h0 : ¬ h < 0) (h1 : ¬ 2 < h) (h2 : ¬ h = 2) : h = 0 ∨ (¬ h = 0 ∧ h = 1) := by
  rw [Int32.lt_iff_toInt_lt] at h0 h1
  have e0 : (0 : Int32).toInt = 0 := rfl
  have e2 : (2 : Int32).toInt = 2 := rfl
  have h3 : h.toInt ≠ 2 := fun q => h2 (Int32.toInt_inj.mp q)
  have : h.toInt = 0 ∨ h.toInt = 1 := by omega
  rcases this with q | q
  · exact Or.inl (Int32.toInt_inj.mp q)
  · have e : h = 1 := Int32.toInt_inj.mp q
    exact Or.inr ⟨by rw [e]; decide, e⟩
theorem eq_sum {S : CS} {M : MSt} (hR : Rel S M) (a1 a2 a3 a4 : Int32) : (cSum S a1 a2 a3 a4).1 = (mSum M a1 a2 a3 a4).1 ∧ Rel (cSum S a1 a2 a3 a4).2 (mSum M a1 a2 a3 a4).2 := by
  unfold cSum mSum
  rw [inL_gen a2 0 2 (a := 0) (b := 2) rfl rfl]
  cases h1 : isSm a1 with
  | false => rw [cond_false, cond_false]; exact ⟨rfl, hR⟩
  | true =>
    rw [cond_true, cond_true]
    by_cases h2 : a2 < 0
    · rw [if_pos h2, decide_eq_true h2, show (!true && !decide (2 < a2)) = false from rfl, cond_false]; exact ⟨rfl, hR⟩
    · rw [if_neg h2, decide_eq_false h2]
      by_cases h3 : 2 < a2
      · rw [if_pos h3, decide_eq_true h3, show (!false && !true) = false from rfl, cond_false]; exact ⟨rfl, hR⟩
      · rw [if_neg h3, decide_eq_false h3, show (!false && !false) = true from rfl, cond_true]
        cases h4 : isSm a3 with
        | false => rw [cond_false, cond_false]; exact ⟨rfl, hR⟩
        | true =>
          rw [cond_true, cond_true]
          cases h5 : isSm a4 with
          | false => rw [cond_false, cond_false]; exact ⟨rfl, hR⟩
          | true =>
            rw [cond_true, cond_true]
            by_cases h6 : a2 = 2
            · rw [if_pos h6, if_pos h6]
              obtain ⟨p1, p2, p3⟩ := pro_eq hR h4 h5
              exact sumE_eq h1 p1 p2 p3
            · rw [if_neg h6, if_neg h6]
              rcases how2 h2 h3 h6 with q | ⟨q, q2⟩
              · rw [if_pos q, decide_eq_false (show ¬ a2 = 1 by rw [q]; decide)]
                obtain ⟨p1, p2, p3⟩ := add_eq hR h4 h5 (less := false) (sn := 1) rfl
                exact sumE_eq h1 p1 p2 p3
              · rw [if_neg q, decide_eq_true q2]
                obtain ⟨p1, p2, p3⟩ := add_eq hR h4 h5 (less := true) (sn := -1) rfl
                exact sumE_eq h1 p1 p2 p3
theorem sgn_pf {f a : Int64} {b : Int32} (h : PF f a b) (h0 : ¬ f = 0) : (a ≤ 0 → sgnO f = -1) ∧ (¬ a ≤ 0 → sgnO f = 1) := by
  have hz := h.zero
  obtain ⟨n, h1, h2, h3, h4, h5, h6⟩ := h
  have p := pw_pos (20 - n)
  have e0 : (0 : Int64).toInt = 0 := rfl
  have ha : a.toInt ≠ 0 := fun q => h0 (hz.mpr (Int64.toInt_inj.mp q))
  unfold sgnO
  rw [if_neg h0]
  constructor
  · intro q
    rw [Int64.le_iff_toInt_le, e0] at q
    rw [if_pos (by rw [Int64.lt_iff_toInt_lt, e0, h6]; exact Int.mul_neg_of_neg_of_pos (by omega) p)]
  · intro q
    rw [Int64.le_iff_toInt_le, e0] at q
    have : 0 < a.toInt * 2 ^ (20 - n) := Int.mul_pos (by omega) p
    rw [if_neg (by rw [Int64.lt_iff_toInt_lt, e0, h6]; omega)]
theorem ge6 (m : Nat) (hm : m < 13) : -6 ≤ nI (m + 1) - 7 := by
  rw [Int32.le_iff_toInt_le, e_int (k := 7) (by omega) rfl (by decide)]
  have : (-6 : Int32).toInt = -6 := rfl
  omega
theorem eq_order {S : CS} {M : MSt} (hR : Rel S M) (a1 a2 : Int32) : (cOrd S a1 a2).1 = (mOrd M a1 a2).1 ∧ Rel (cOrd S a1 a2).2 (mOrd M a1 a2).2 := by
  unfold cOrd mOrd
  cases h4 : isSm a1 with
  | false => rw [cond_false, cond_false]; exact ⟨rfl, hR⟩
  | true =>
    rw [cond_true, cond_true]
    cases h5 : isSm a2 with
    | false => rw [cond_false, cond_false]; exact ⟨rfl, hR⟩
    | true =>
      rw [cond_true, cond_true]
      obtain ⟨p1, p2, p3⟩ := add_eq hR h4 h5 (less := true) (sn := -1) rfl
      generalize sumT S a1 a2 true = P at *
      generalize mAdd M a1.toNatClampNeg a2.toNatClampNeg (-1) = Q at *
      obtain ⟨b, g⟩ := P
      obtain ⟨b', N⟩ := Q
      have p1b : b = b' := p1
      subst p1b
      have hS : Rel (cS8 S g) N := Rel_F p2 fun y hy => uF_n (by omega)
      have p3b : SR g N 9 := p3
      unfold mOrdE
      cases b with
      | false => rw [cond_false, cond_false]; exact ⟨rfl, hS⟩
      | true =>
        rw [cond_true, cond_true]
        show ((if 0 ≤ sltR g 0 then (sgnO (g (sltR g 0).toNatClampNeg), cS8 S g) else (0, cS8 S g)) : Int32 × CS).1 = ((if -6 ≤ nI (grM (abM N) 9 13) - 7 then (if abM N (13 * 9 + (grM (abM N) 9 13 - 1)) ≤ 0 then (-1, N) else (1, N)) else (0, N)) : Int32 × MSt).1 ∧ Rel ((if 0 ≤ sltR g 0 then (sgnO (g (sltR g 0).toNatClampNeg), cS8 S g) else (0, cS8 S g)) : Int32 × CS).2 ((if -6 ≤ nI (grM (abM N) 9 13) - 7 then (if abM N (13 * 9 + (grM (abM N) 9 13 - 1)) ≤ 0 then (-1, N) else (1, N)) else (0, N)) : Int32 × MSt).2
        rcases gr_R p3b with ⟨u1, u2⟩ | ⟨m, u0, u1, u2, u3⟩
        · rw [u1, u2, if_neg (by decide), if_neg (by decide)]; exact ⟨rfl, hS⟩
        · rw [u1, u2, if_pos (nI_nn (by omega)), if_pos (ge6 m u0), nI_clamp (by omega), Nat.add_sub_cancel]
          obtain ⟨s1, s2⟩ := sgn_pf (p3b m u0) u3
          by_cases h : abM N (13 * 9 + m) ≤ 0
          · rw [if_pos h, s1 h]; exact ⟨rfl, hS⟩
          · rw [if_neg h, s2 h]; exact ⟨rfl, hS⟩
theorem eq_take {S : CS} {M : MSt} (hR : Rel S M) (a1 a2 : Int32) : (cTake S a1 a2).1 = (mTake M a1 a2).1 ∧ Rel (cTake S a1 a2).2 (mTake M a1 a2).2 := by
  unfold cTake mTake
  cases h1 : isSm a1 with
  | false => rw [cond_false, cond_false]; exact ⟨rfl, hR⟩
  | true =>
    rw [cond_true, cond_true]
    cases h2 : isReg a2 with
    | false => rw [cond_false, cond_false]; exact ⟨rfl, hR⟩
    | true =>
      rw [cond_true, cond_true]
      have hz := sm_lt h1
      have e3 : (wO M a2.toNatClampNeg).toInt = 2 * (vlC S a2).toInt := hR.vw (reg_lt h2)
      have e4 : (wO M a2.toNatClampNeg).toInt = (vlC S a2).toInt * 2 ^ (24 - 23) := by
        rw [e3, show 24 - 23 = 1 from rfl]; omega
      have hr := rd_scale (K := 24) (m := 23) (by decide) e4
      have hp := pl_scale (K := 24) (m := 23) (by decide) e4
      cases hq : plM (wO M a2.toNatClampNeg) 24 with
      | false =>
        rw [hq] at hp
        have t : facO (vlC S a2) 23 = 1152921504606846976 := facO_f (k := 23) (by decide) hp.symm
        rw [if_pos t, cond_false]; exact ⟨rfl, hR⟩
      | true =>
        rw [hq] at hp
        obtain ⟨t1, t2, _⟩ := facO_t (x := vlC S a2) (k := 23) (by decide) hp.symm
        have t2b : ¬ facO (vlC S a2) 23 = 1152921504606846976 := t2
        rw [if_neg t2b, cond_true]
        have hR1 : Rel (sF S (uF (fC S) a1.toNatClampNeg (cpyG (fun _ => 0) (gC S a1) 13))) (mCpN M a1.toNatClampNeg) := Rel_clr hR (fun y _ q => uF_n q) uF_s
        rw [← hr] at t1
        have hR2 : Rel (sF S (uF (fC S) a1.toNatClampNeg (cTk S a1 a2))) (mT1 (mCpN M a1.toNatClampNeg) (13 * a1.toNatClampNeg + 6) (wO M a2.toNatClampNeg) 24) := by
          unfold mT1
          refine Rel_setz (F := uF (fC S) a1.toNatClampNeg (cTk S a1 a2)) hR1 hz (j := 6) (by decide) t1 (fun y _ q => ?_) ?_ _ _ _ _
          · exact (uF_n q).trans (uF_n (F := fC S) (g := cpyG (fun _ => 0) (gC S a1) 13) q).symm
          · rw [uF_s]
            show cTk S a1 a2 = vp_updL (uF (fC S) a1.toNatClampNeg (cpyG (fun _ => 0) (gC S a1) 13) a1.toNatClampNeg) 6 (facO (vlC S a2) 23)
            rw [uF_s]; rfl
        refine ⟨?_, hR2⟩
        have := hR2.sr hz
        have e5 : fC (sF S (uF (fC S) a1.toNatClampNeg (cTk S a1 a2))) a1.toNatClampNeg = cTk S a1 a2 := uF_s
        rw [e5] at this
        show cntG (cTk S a1 a2) 13 = tmM (abM (mT1 (mCpN M a1.toNatClampNeg) (13 * a1.toNatClampNeg + 6) (wO M a2.toNatClampNeg) 24)) a1.toNatClampNeg 13
        generalize mT1 (mCpN M a1.toNatClampNeg) (13 * a1.toNatClampNeg + 6) (wO M a2.toNatClampNeg) 24 = N at *
        exact cnt_eq (a := abM N) this.z 13 (Nat.le_refl _)
theorem le6 {m : Nat} (hm : m < 13) : nI m ≤ 6 ↔ nI (m + 1) - 7 ≤ 0 := by
  rw [Int32.le_iff_toInt_le, Int32.le_iff_toInt_le, e_int (k := 7) (by omega) rfl (by decide), nI_toInt (by omega)]
  have e6 : (6 : Int32).toInt = 6 := rfl
  have e0 : (0 : Int32).toInt = 0 := rfl
  omega
theorem near_h {S : CS} {M : MSt} (hR : Rel S M) {s z : Int32} (hz : isSm z = true) : (cHV S s (shlL (gC S z (6 : Int32).toNatClampNeg) 3)).1 = (mKH s (mHas M (abM M (13 * z.toNatClampNeg + 6)) (bN M (13 * z.toNatClampNeg + 6)))).1 ∧ Rel (cHV S s (shlL (gC S z (6 : Int32).toNatClampNeg) 3)).2 (mKH s (mHas M (abM M (13 * z.toNatClampNeg + 6)) (bN M (13 * z.toNatClampNeg + 6)))).2 := by
  have hP := hR.pf (sm_lt hz) (j := 6) (by decide)
  have bd := hP.fa.bd
  obtain ⟨h0, h1, h3, h4, h5, h6⟩ := hP.get
  unfold mHas
  obtain ⟨u1, u2⟩ := rd_of (k := bN M (13 * z.toNatClampNeg + 6)) (a := abM M (13 * z.toNatClampNeg + 6)) (u := (abM M (13 * z.toNatClampNeg + 6)).toInt) (d := bN M (13 * z.toNatClampNeg + 6)) (Nat.le_refl _) h5 (by rw [Nat.sub_self, Int.pow_zero, Int.mul_one])
  have e1 : rdM (bN M (13 * z.toNatClampNeg + 6)) (abM M (13 * z.toNatClampNeg + 6)) = (abM M (13 * z.toNatClampNeg + 6), bN M (13 * z.toNatClampNeg + 6)) := Prod.ext (Int64.toInt_inj.mp u1) u2
  rw [e1]
  have p3 : (2 : Int) ^ 3 = 8 := by decide
  have p63 : (2 : Int) ^ 63 = 9223372036854775808 := by decide
  have es : (shlL (fC S z.toNatClampNeg 6) (nI 3)).toInt = (fC S z.toNatClampNeg 6).toInt * 2 ^ 3 := shlN _ (by decide) (by rw [p3]; omega) (by rw [p3]; omega)
  refine HV_eq hR (Nat.le_trans h1 (by decide)) ?_
  show (shlL (fC S z.toNatClampNeg 6) (nI 3)).toInt = _
  rw [es, h6, Int.mul_assoc, ← Int.pow_add, show 20 - (blM M (13 * z.toNatClampNeg + 6)).toNatClampNeg + 3 = 23 - (blM M (13 * z.toNatClampNeg + 6)).toNatClampNeg from by omega]
theorem eq_near {S : CS} {M : MSt} (hR : Rel S M) (a1 a2 : Int32) : (cNear S a1 a2).1 = (mNear M a1 a2).1 ∧ Rel (cNear S a1 a2).2 (mNear M a1 a2).2 := by
  unfold cNear mNear
  cases h1 : isReg a1 with
  | false => rw [cond_false, cond_false]; exact ⟨rfl, hR⟩
  | true =>
    rw [cond_true, cond_true]
    cases h2 : isSm a2 with
    | false => rw [cond_false, cond_false]; exact ⟨rfl, hR⟩
    | true =>
      rw [cond_true, cond_true]
      have hz := sm_lt h2
      have hn := near_h hR (s := a1) h2
      rcases gr_R (hR.sr hz) with ⟨u1, u2⟩ | ⟨m, u0, u1, u2, u3⟩
      · rw [u1, show sltR (gC S a2) 0 = -1 from u2, if_pos (by decide), if_pos (by decide)]; exact hn
      · rw [u1, show sltR (gC S a2) 0 = nI m from u2]
        by_cases h : nI m ≤ 6
        · rw [if_pos h, if_pos ((le6 u0).mp h)]; exact hn
        · rw [if_neg h, if_neg (fun q => h ((le6 u0).mpr q))]; exact ⟨rfl, hR⟩
theorem zz57d : True := trivial
