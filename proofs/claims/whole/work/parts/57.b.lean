theorem rd_ub {K : Nat} {X : Int64} : (rdM K X).1.toInt.natAbs ≤ X.toInt.natAbs := by
  obtain ⟨r1, r2, r3⟩ := rd_spec K X
  have p := pw_pos (K - (rdM K X).2)
  have hn : X.toInt.natAbs = (rdM K X).1.toInt.natAbs * ((2 : Int) ^ (K - (rdM K X).2)).natAbs := by
    rw [← Int.natAbs_mul, ← r2]
  have h2 : (rdM K X).1.toInt.natAbs * 1 ≤ (rdM K X).1.toInt.natAbs * ((2 : Int) ^ (K - (rdM K X).2)).natAbs := Nat.mul_le_mul_left _ (by omega)
  omega
theorem mul_eq {S : CS} {N : MSt} (hR : Rel S N) {z : Nat} (hz : 8 ≤ z) {g : Nat → Int64} (hg : SR g N z) (e : Int32) {f a h b sn : Int64} {k : Nat} {l : Int32} (hs : sn = 1 ∨ sn = -1) (hk : k ≤ 20) (a1 : -1000000000 ≤ a.toInt) (a2 : a.toInt ≤ 1000000000) (hf : PF f (sn * a) (nI k)) (hh : PF h b l) :
    (putF g e (facP f h)).1 = (mMul N z e a k b l.toNatClampNeg sn).1 ∧ Rel S (mMul N z e a k b l.toNatClampNeg sn).2 ∧ SR (putF g e (facP f h)).2 (mMul N z e a k b l.toNatClampNeg sn).2 z ∧ ∀ z2, z2 ≠ z → ∀ g2, SR g2 N z2 → SR g2 (mMul N z e a k b l.toNatClampNeg sn).2 z2 := by
  obtain ⟨_, l1, b1, b2, _, _⟩ := hh.get
  have eP := facP_eq hf hh
  rw [nI_clamp (by omega)] at eP
  rw [eP]
  obtain ⟨_, _, c1, c2', _, _⟩ := hf.get
  have hX := mul_i a1 a2 b1 b2
  have hY := mul_i c1 c2' b1 b2
  have hB := mul_bd a1 a2 b1 b2
  obtain ⟨s1, s2⟩ := sn_mul hs (a := a) (by omega) (by omega)
  have eY : (sn * a * b).toInt = sn.toInt * (a * b).toInt := by rw [hY, hX, s1, Int.mul_assoc]
  have er := rd_sn (K := k + l.toNatClampNeg) hs eY (by omega) (by omega)
  have ub := rd_ub (K := k + l.toNatClampNeg) (X := a * b)
  have ep := pl_sn (K := k + l.toNatClampNeg) (by omega) hs er (by omega) (by omega)
  unfold mMul
  rw [isEx_eq]
  cases he : isEx e with
  | false =>
    rw [cond_false]
    unfold putF
    rw [he, cond_false]
    exact ⟨rfl, hR, hg, fun _ _ _ h => h⟩
  | true =>
    rw [cond_true]
    cases hq : plM (a * b) (k + l.toNatClampNeg) with
    | true =>
      rw [cond_true]
      rw [hq] at ep
      obtain ⟨t1, t2, t3⟩ := facO_t (x := sn * a * b) (k := k + l.toNatClampNeg) (by omega) ep
      obtain ⟨q1, q2, q3⟩ := (pl_iff (by omega)).mp ep
      rw [er] at t3 q1 q2 q3
      have hFA : FA (facO (sn * a * b) (nI (k + l.toNatClampNeg))) (sn * (rdM (k + l.toNatClampNeg) (a * b)).1) (rdM (k + l.toNatClampNeg) (a * b)).2 := ⟨q3, q1, q2, t3⟩
      exact put_eq (N := mPl N (a * b) (k + l.toNatClampNeg)) hR hz hg e hFA
    | false =>
      rw [cond_false]
      rw [hq] at ep
      rw [facO_f (x := sn * a * b) (k := k + l.toNatClampNeg) (by omega) ep]
      unfold putF
      rw [he, cond_true, if_pos rfl]
      exact ⟨rfl, hR, hg, fun _ _ _ h => h⟩
theorem Rel.pf {S : CS} {N : MSt} (hR : Rel S N) {z j : Nat} (hz : z < 8) (hj : j < 13) : PF (fC S z j) (abM N (13 * z + j)) (blM N (13 * z + j)) := hR.2.2.2.2.2.2.2.2 z hz j hj
theorem PF.sn {f a : Int64} {b : Int32} {less : Bool} {sn : Int64} (hs : sn = bif less then -1 else 1) (h : PF f a b) : PF (bif less then -f else f) (sn * a) b := by
  have bd := h.fa.bd
  obtain ⟨n, h1, h2, h3, h4, h5, h6⟩ := h
  cases less with
  | false =>
    rw [cond_false] at hs ⊢
    rw [hs, Int64.one_mul]
    exact ⟨n, h1, h2, h3, h4, h5, h6⟩
  | true =>
    rw [cond_true] at hs ⊢
    obtain ⟨s1, s2⟩ := sn_mul (Or.inr hs) (a := a) (by omega) (by omega)
    rw [hs, show (-1 : Int64).toInt = -1 from rfl] at s1
    rw [hs]
    refine ⟨n, h1, h2, by omega, by omega, by omega, ?_⟩
    have e1 : (-f).toInt = -f.toInt := by rw [Int64.toInt_neg, Int.bmod_def]; omega
    rw [e1, s1, h6, Int.neg_mul, Int.one_mul, Int.neg_mul]
theorem ad_eq {S : CS} {y : Nat} (hy : y < 8) {sn : Int64} {less : Bool} (hs : sn = bif less then -1 else 1) : ∀ (j : Nat), j ≤ 13 → ∀ (N : MSt) (g : Nat → Int64), Rel S N → SR g N 9 → (btF (fC S y) less j g).1 = (adL y sn j N).1 ∧ Rel S (adL y sn j N).2 ∧ SR (btF (fC S y) less j g).2 (adL y sn j N).2 9
  | 0, _, N, g, hR, hg => ⟨rfl, hR, hg⟩
  | j + 1, hj, N, g, hR, hg => by
    have hP := hR.pf hy (j := j) (by omega)
    rw [btF, adL]
    by_cases h0 : fC S y j = 0
    · rw [if_pos h0, if_pos (hP.zero.mp h0)]
      exact ad_eq hy hs j (by omega) N g hR hg
    · rw [if_neg h0, if_neg (fun q => h0 (hP.zero.mpr q))]
      obtain ⟨p1, p2, p3, _⟩ := put_eq hR (z := 9) (by decide) hg (nI j - 6) (hP.sn hs).fa
      generalize putF g (nI j - 6) (bif less then -fC S y j else fC S y j) = P at *
      generalize mPut N 9 (nI j - 6) (sn * abM N (13 * y + j)) (blM N (13 * y + j)).toNatClampNeg = Q at *
      obtain ⟨b, g'⟩ := P
      obtain ⟨b', N'⟩ := Q
      have p1b : b = b' := p1
      subst p1b
      cases b with
      | true => rw [cond_true, cond_true]; exact ad_eq hy hs j (by omega) N' g' p2 p3
      | false => rw [cond_false, cond_false]; exact ⟨rfl, p2, p3⟩
theorem prI_f {x y e : Nat} : ∀ (f : Nat) (N : MSt), prI x y e f false N = (false, N)
  | 0, N => rfl
  | f + 1, N => by
    rw [prI]
    by_cases h : abM N (13 * x + e) = 0
    · rw [if_pos h]
    · rw [if_neg h, cond_false]; exact prI_f f N
theorem prI_0 {x y e : Nat} {N : MSt} (h : abM N (13 * x + e) = 0) (b : Bool) : ∀ f : Nat, prI x y e f b N = (b, N)
  | 0 => rfl
  | f + 1 => by rw [prI, if_pos h]
theorem prO_f {x y : Nat} : ∀ (e : Nat) (N : MSt), prO x y e false N = (false, N)
  | 0, N => rfl
  | e + 1, N => by rw [prO, prI_f 13 N]; exact prO_f e N
theorem ex_as (a b : Int32) : a + b - 6 = a + (b - 6) := by
  rw [Int32.sub_eq_add_neg, Int32.sub_eq_add_neg, Int32.add_assoc]
theorem pp_eq {S : CS} {x y e : Nat} (hx : x < 8) (hy : y < 8) (he : e < 13) (h1 : ¬ fC S x e = 0) : ∀ (j : Nat), j ≤ 13 → ∀ (N : MSt) (g : Nat → Int64), Rel S N → SR g N 9 → (ppF (fC S y) (nI e - 6) (fC S x e) j g).1 = (prI x y e j true N).1 ∧ Rel S (prI x y e j true N).2 ∧ SR (ppF (fC S y) (nI e - 6) (fC S x e) j g).2 (prI x y e j true N).2 9
  | 0, _, N, g, hR, hg => ⟨rfl, hR, hg⟩
  | j + 1, hj, N, g, hR, hg => by
    have hP := hR.pf hy (j := j) (by omega)
    have hX := hR.pf hx he
    rw [ppF, prI, if_neg (fun q => h1 (hX.zero.mpr q)), cond_true]
    by_cases h0 : fC S y j = 0
    · rw [if_pos h0, if_pos (hP.zero.mp h0)]
      exact pp_eq hx hy he h1 j (by omega) N g hR hg
    · rw [if_neg h0, if_neg (fun q => h0 (hP.zero.mpr q)), ex_as]
      obtain ⟨x0, x1, x2, x3, _, _⟩ := hX.get
      have hX1 : PF (fC S x e) (1 * abM N (13 * x + e)) (nI (blM N (13 * x + e)).toNatClampNeg) := by
        rw [Int64.one_mul, ← x0]; exact hX
      obtain ⟨p1, p2, p3, _⟩ := mul_eq hR (z := 9) (by decide) hg (nI e - 6 + (nI j - 6)) (Or.inl rfl) x1 x2 x3 hX1 hP
      generalize putF g (nI e - 6 + (nI j - 6)) (facP (fC S x e) (fC S y j)) = P at *
      generalize mMul N 9 (nI e - 6 + (nI j - 6)) (abM N (13 * x + e)) (blM N (13 * x + e)).toNatClampNeg (abM N (13 * y + j)) (blM N (13 * y + j)).toNatClampNeg 1 = Q at *
      obtain ⟨b, g'⟩ := P
      obtain ⟨b', N'⟩ := Q
      have p1b : b = b' := p1
      subst p1b
      cases b with
      | true => rw [cond_true]; exact pp_eq hx hy he h1 j (by omega) N' g' p2 p3
      | false => rw [cond_false, prI_f]; exact ⟨rfl, p2, p3⟩
theorem po_eq {S : CS} {x y : Nat} (hx : x < 8) (hy : y < 8) : ∀ (e : Nat), e ≤ 13 → ∀ (N : MSt) (g : Nat → Int64), Rel S N → SR g N 9 → (bpF (fC S x) (fC S y) e g).1 = (prO x y e true N).1 ∧ Rel S (prO x y e true N).2 ∧ SR (bpF (fC S x) (fC S y) e g).2 (prO x y e true N).2 9
  | 0, _, N, g, hR, hg => ⟨rfl, hR, hg⟩
  | e + 1, he, N, g, hR, hg => by
    have hX := hR.pf hx (j := e) (by omega)
    rw [bpF, prO]
    by_cases h0 : fC S x e = 0
    · rw [if_pos h0, prI_0 (hX.zero.mp h0)]
      exact po_eq hx hy e (by omega) N g hR hg
    · rw [if_neg h0]
      obtain ⟨p1, p2, p3⟩ := pp_eq hx hy (by omega) h0 13 (Nat.le_refl _) N g hR hg
      generalize ppF (fC S y) (nI e - 6) (fC S x e) 13 g = P at *
      generalize prI x y e 13 true N = Q at *
      obtain ⟨b, g'⟩ := P
      obtain ⟨b', N'⟩ := Q
      have p1b : b = b' := p1
      subst p1b
      cases b with
      | true => rw [cond_true]; exact po_eq hx hy e (by omega) N' g' p2 p3
      | false =>
        rw [cond_false]
        show _ = (prO x y e false N').1 ∧ Rel S (prO x y e false N').2 ∧ SR _ (prO x y e false N').2 9
        rw [prO_f]; exact ⟨rfl, p2, p3⟩
theorem zz57b : True := trivial
