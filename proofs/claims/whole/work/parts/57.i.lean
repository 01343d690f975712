theorem ex_7 {f : Nat} (hf : f < 13) : nI (f + 1) - 7 = nI f - 6 := by
  apply Int32.toInt_inj.mp
  rw [e_int (k := 7) (by omega) rfl (by decide), e_int (k := 6) (by omega) rfl (by decide)]
  omega
theorem lt_6 {f : Nat} (hf : f < 13) : ¬ nI f - 6 < -6 := by
  rw [Int32.lt_iff_toInt_lt, e_int (k := 6) (by omega) rfl (by decide)]
  have : (-6 : Int32).toInt = -6 := rfl
  omega
theorem dv_eq {S : CS} {y : Nat} (hy : y < 8) {g2 : Nat} (hg : g2 < 13) (zy : ¬ fC S y g2 = 0) {a : Int64} (ea : ∀ N : MSt, Rel S N → abM N (13 * y + g2) = a) {jj : Nat} (hj : (szL 31 (absD a) 0).2 = jj) : ∀ (m n : Nat) (N : MSt) (r q : Nat → Int64), Rel S N → SR r N 9 → SR q N 8 → (dvL (fC S y) (nI g2) m n r q).1 = (dvM a y g2 jj m n N).1 ∧ (dvL (fC S y) (nI g2) m n r q).2.1 = (dvM a y g2 jj m n N).2.1 ∧ Rel S (dvM a y g2 jj m n N).2.2 ∧ SR (dvL (fC S y) (nI g2) m n r q).2.2.1 (dvM a y g2 jj m n N).2.2 9 ∧ SR (dvL (fC S y) (nI g2) m n r q).2.2.2 (dvM a y g2 jj m n N).2.2 8
  | 0, n, N, r, q, hR, hr, hq => ⟨rfl, rfl, hR, hr, hq⟩
  | m + 1, n, N, r, q, hR, hr, hq => by
    rw [dvL, dvM]
    rcases gr_R hq with ⟨u1, u2⟩ | ⟨f2, u0, u1, u2, u3⟩
    · rw [u1, u2, if_pos (by decide), if_pos (by decide)]
      exact ⟨rfl, rfl, hR, hr, hq⟩
    · rw [u1, u2, ex_7 u0, Nat.add_sub_cancel, ex_df u0 hg, if_neg (Int32.not_lt.mpr (nI_nn (by omega))), if_neg (lt_6 u0)]
      by_cases h : -6 ≤ nI f2 - nI g2
      · rw [if_pos h, if_neg (Int32.not_lt.mpr h)]
        obtain ⟨p1, p2, p3, p4⟩ := rnd_eq hR hy hg zy (ea N hR) u0 hr hq u3 hj
        generalize dOnce (fC S y) (nI g2) (nI f2) r q = P at *
        generalize mRnd N a y g2 jj f2 = Q at *
        obtain ⟨b, r', q'⟩ := P
        obtain ⟨b', N'⟩ := Q
        have p1b : b = b' := p1
        subst p1b
        cases b with
        | true => rw [cond_true, cond_true]; exact dv_eq hy hg zy ea hj m (n + 1) N' r' q' p2 p3 p4
        | false => rw [cond_false, cond_false]; exact ⟨rfl, rfl, p2, p3, p4⟩
      · rw [if_neg h, if_pos (Int32.not_le.mp h)]
        exact ⟨rfl, rfl, hR, hr, hq⟩
theorem dvE_eq {S : CS} {q r : Int32} (hq : isSm q = true) (hr : isSm r = true) {P : Bool × Nat × (Nat → Int64) × (Nat → Int64)} {Q : Bool × Nat × MSt} (p1 : P.1 = Q.1) (p2 : P.2.1 = Q.2.1) (hR : Rel S Q.2.2) (h9 : SR P.2.2.1 Q.2.2 9) (h8 : SR P.2.2.2 Q.2.2 8) : (dvE S q r P).1 = (mDvE q r Q).1 ∧ Rel (dvE S q r P).2 (mDvE q r Q).2 := by
  obtain ⟨b, n, g, h⟩ := P
  obtain ⟨b', n', N⟩ := Q
  have p1b : b = b' := p1
  have p2b : n = n' := p2
  subst p1b
  subst p2b
  have hRN : Rel S N := hR
  have g9 : SR g N 9 := h9
  have g8 : SR h N 8 := h8
  have q8 := sm_lt hq
  have r8 := sm_lt hr
  unfold dvE mDvE
  cases b with
  | false =>
    rw [cond_false, cond_false]
    exact ⟨rfl, Rel_F hRN fun y hy => (uF_n (by omega)).trans (uF_n (by omega))⟩
  | true =>
    rw [cond_true, cond_true]
    refine ⟨rfl, ?_⟩
    show Rel (cE2 (cE1 (cS2 S g h) q.toNatClampNeg) r.toNatClampNeg) (mCpF (mCpF N q.toNatClampNeg 9) r.toNatClampNeg 8)
    have e8 : fC (cS2 S g h) 8 = g := show uF (uF (fC S) 8 g) 9 h 8 = g from (uF_n (by decide)).trans uF_s
    have e9 : fC (cS2 S g h) 9 = h := show uF (uF (fC S) 8 g) 9 h 9 = h from uF_s
    have hR1 : Rel (cE1 (cS2 S g h) q.toNatClampNeg) (mCpF N q.toNatClampNeg 9) := by
      unfold cE1
      rw [e8]
      exact Rel_into (S := S) hRN (by decide) g9 (fun y hy w => (uF_n w).trans ((uF_n (F := uF (fC S) 8 g) (z := 9) (g := h) (by omega)).trans (uF_n (by omega)))) uF_s
    have e9b : fC (cE1 (cS2 S g h) q.toNatClampNeg) 9 = h := by
      show uF (fC (cS2 S g h)) q.toNatClampNeg _ 9 = h
      rw [uF_n (by omega)]
      exact e9
    unfold cE2
    rw [e9b]
    exact Rel_into hR1 (by decide) (SR_cpFn (by omega) g8) (fun y hy w => uF_n w) uF_s
theorem eq_divide {S : CS} {M : MSt} (hR : Rel S M) (a1 a2 a3 a4 a5 : Int32) : (cDiv S a1 a2 a3 a4 a5).1 = (mDiv M a1 a2 a3 a4 a5).1 ∧ Rel (cDiv S a1 a2 a3 a4 a5).2 (mDiv M a1 a2 a3 a4 a5).2 := by
  unfold cDiv mDiv
  rw [inL_gen a5 1 20 (a := 1) (b := 20) rfl rfl]
  cases h1 : isSm a1 with
  | false => rw [cond_false, cond_false]; exact ⟨rfl, hR⟩
  | true =>
    rw [cond_true, cond_true]
    cases h2 : isSm a2 with
    | false => rw [cond_false, cond_false]; exact ⟨rfl, hR⟩
    | true =>
      rw [cond_true, cond_true]
      by_cases h3 : a1 = a2
      · rw [if_pos h3, if_pos h3]; exact ⟨rfl, hR⟩
      · rw [if_neg h3, if_neg h3]
        cases h4 : isSm a3 with
        | false => rw [cond_false, cond_false]; exact ⟨rfl, hR⟩
        | true =>
          rw [cond_true, cond_true]
          cases h5 : isSm a4 with
          | false => rw [cond_false, cond_false]; exact ⟨rfl, hR⟩
          | true =>
            rw [cond_true, cond_true]
            by_cases h6 : a5 < 1
            · rw [if_pos h6, decide_eq_true h6, show (!true && !decide (20 < a5)) = false from rfl, cond_false]; exact ⟨rfl, hR⟩
            · rw [if_neg h6, decide_eq_false h6]
              by_cases h7 : 20 < a5
              · rw [if_neg (Int32.not_le.mpr h7), decide_eq_true h7, show (!false && !true) = false from rfl, cond_false]; exact ⟨rfl, hR⟩
              · rw [if_pos (Int32.not_lt.mp h7), decide_eq_false h7, show (!false && !false) = true from rfl, cond_true]
                have x8 := sm_lt h4
                have y8 := sm_lt h5
                rcases gr_R (hR.sr y8) with ⟨u1, u2⟩ | ⟨m, u0, u1, u2, u3⟩
                · rw [u1, show sltR (gC S a4) 0 = -1 from u2, if_pos (by decide), if_neg (by decide)]; exact ⟨rfl, hR⟩
                · have u2b : sltR (gC S a4) 0 = nI m := u2
                  have eG : yG M a4.toNatClampNeg = m := by unfold yG; rw [u1, Nat.add_sub_cancel]
                  have eA : yA M a4.toNatClampNeg = abM M (13 * a4.toNatClampNeg + m) := by unfold yA; rw [eG]
                  have hP := hR.pf y8 u0
                  obtain ⟨_, _, d3, _⟩ := dv_y hP u3
                  rw [u1, u2b, if_neg (Int32.not_lt.mpr (nI_nn (by omega))), if_pos (ge6 m u0), nI_clamp (show m < 2 ^ 31 by omega), show isP2 (gC S a4 m) = _ from d3]
                  unfold dvS mDvS
                  rw [eA, eG, u2b]
                  by_cases h8 : (szL 31 (absD (abM M (13 * a4.toNatClampNeg + m))) 0).1 = 1
                  · rw [if_pos h8, decide_eq_true h8, cond_true]
                    obtain ⟨w1, w2, w3, w4, w5⟩ := dv_eq (S := S) y8 u0 u3 (a := abM M (13 * a4.toNatClampNeg + m)) (fun N hN => ((hN.pf y8 u0).uniq hP).1) rfl a5.toNatClampNeg 0 (mCpN (mCpF M 8 a3.toNatClampNeg) 9) (cpyG (fun _ => 0) (fC S 8) 13) (cpyG (gC S a3) (fC S 9) 13) (Rel_cpN (Rel_cpF hR (by decide) (by omega)) (by decide)) SR_cpN (SR_cpNn (by decide) (SR_cpF (hR.sr x8)))
                    exact dvE_eq h1 h2 w1 w2 w3 w4 w5
                  · rw [if_neg h8, decide_eq_false h8, cond_false]; exact ⟨rfl, hR⟩
theorem zz57i : True := trivial
