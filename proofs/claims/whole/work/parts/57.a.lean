def FA (f a : Int64) (k : Nat) : Prop := k ≤ 20 ∧ -1000000000 ≤ a.toInt ∧ a.toInt ≤ 1000000000 ∧ f.toInt = a.toInt * 2 ^ (20 - k)
def SR (g : Nat → Int64) (N : MSt) (z : Nat) : Prop := ∀ j : Nat, j < 13 → PF (g j) (abM N (13 * z + j)) (blM N (13 * z + j))
theorem PF.get {f a : Int64} {b : Int32} (h : PF f a b) : b = nI b.toNatClampNeg ∧ b.toNatClampNeg ≤ 20 ∧ -1000000000 ≤ a.toInt ∧ a.toInt ≤ 1000000000 ∧ (b.toNatClampNeg = 0 ∨ a.toInt % 2 = 1) ∧ f.toInt = a.toInt * 2 ^ (20 - b.toNatClampNeg) := by
  obtain ⟨n, h1, h2, h3⟩ := h
  have e : b.toNatClampNeg = n := by rw [h2, nI_clamp (by omega)]
  rw [e]
  exact ⟨h2, h1, h3⟩
theorem PF.zero {f a : Int64} {b : Int32} (h : PF f a b) : f = 0 ↔ a = 0 := by
  obtain ⟨n, h1, h2, h3, h4, h5, h6⟩ := h
  have p := pw_pos (20 - n)
  have e0 : (0 : Int64).toInt = 0 := rfl
  constructor
  · intro q
    rw [q, e0] at h6
    apply Int64.toInt_inj.mp
    rcases Int.mul_eq_zero.mp h6.symm with w | w
    · rw [w]; rfl
    · omega
  · intro q
    apply Int64.toInt_inj.mp
    rw [h6, q, e0]
    exact Int.zero_mul _
theorem PF.rd {f a : Int64} {b : Int32} (h : PF f a b) : rdM 20 f = (a, b.toNatClampNeg) := by
  obtain ⟨h0, h1, h3, h4, h5, h6⟩ := h.get
  obtain ⟨u1, u2⟩ := rd_of (k := 20) (a := f) (u := a.toInt) (d := b.toNatClampNeg) h1 h5 h6
  exact Prod.ext (Int64.toInt_inj.mp u1) u2
theorem PF.uniq {f a a2 : Int64} {b b2 : Int32} (h : PF f a b) (h2 : PF f a2 b2) : a = a2 ∧ b = b2 := by
  have e1 := h.rd
  rw [h2.rd] at e1
  have e2 := congrArg Prod.snd e1
  refine ⟨(congrArg Prod.fst e1).symm, ?_⟩
  rw [h.get.1, h2.get.1]
  exact congrArg nI e2.symm
theorem PF.fa {f a : Int64} {b : Int32} (h : PF f a b) : FA f a b.toNatClampNeg := by
  obtain ⟨h0, h1, h3, h4, h5, h6⟩ := h.get
  exact ⟨h1, h3, h4, h6⟩
theorem PF_0 : PF 0 0 0 := ⟨0, by decide, rfl, by decide, by decide, Or.inl rfl, by decide⟩
theorem FA.bd {f a : Int64} {k : Nat} (h : FA f a k) : -1048576000000000 ≤ f.toInt ∧ f.toInt ≤ 1048576000000000 := by
  obtain ⟨h1, h2, h3, h4⟩ := h
  obtain ⟨v1, v2, v3⟩ := fac_v (d := k) h2 h3
  rw [h4]; exact ⟨v2, v3⟩
theorem FA.ne {f a : Int64} {k : Nat} (h : FA f a k) : ¬ f = 1152921504606846976 := by
  intro q
  have := h.bd
  rw [q] at this
  have em : (1152921504606846976 : Int64).toInt = 1152921504606846976 := by decide
  omega
theorem mx_eq {b k : Nat} (hb : b ≤ 20) (hk : k ≤ 20) : b ≤ mx b k ∧ k ≤ mx b k ∧ mx b k ≤ 20 := by
  unfold mx
  by_cases h : nI b ≤ nI k
  · rw [if_pos h]; have := nle h (by omega) (by omega); omega
  · rw [if_neg h]; have := nlt h (by omega) (by omega); omega
theorem shl_sm {x : Int64} {d : Nat} (hd : d ≤ 20) (h1 : -1000000000 ≤ x.toInt) (h2 : x.toInt ≤ 1000000000) : (shlL x (nI d)).toInt = x.toInt * 2 ^ d ∧ -1048576000000000 ≤ x.toInt * 2 ^ d ∧ x.toInt * 2 ^ d ≤ 1048576000000000 := by
  have h := fac_v (d := 20 - d) h1 h2
  rw [show 20 - (20 - d) = d from by omega] at h
  exact h
theorem putV_eq {x a F f : Int64} {b k : Nat} (hx : FA F x b) (hf : FA f a k) : (F + f).toInt = (putV x b a k).toInt * 2 ^ (20 - mx b k) := by
  have bx := hx.bd
  have bf := hf.bd
  obtain ⟨hb, x1, x2, eF⟩ := hx
  obtain ⟨hk, a1, a2, ef⟩ := hf
  obtain ⟨m1, m2, m3⟩ := mx_eq hb hk
  unfold putV
  rw [pk_sub m1, pk_sub m2]
  obtain ⟨v1, v2, v3⟩ := shl_sm (x := x) (d := mx b k - b) (by omega) x1 x2
  obtain ⟨w1, w2, w3⟩ := shl_sm (x := a) (d := mx b k - k) (by omega) a1 a2
  have s1 : F.toInt = x.toInt * 2 ^ (mx b k - b) * 2 ^ (20 - mx b k) := by
    rw [eF, Int.mul_assoc, ← Int.pow_add, show mx b k - b + (20 - mx b k) = 20 - b from by omega]
  have s2 : f.toInt = a.toInt * 2 ^ (mx b k - k) * 2 ^ (20 - mx b k) := by
    rw [ef, Int.mul_assoc, ← Int.pow_add, show mx b k - k + (20 - mx b k) = 20 - k from by omega]
  have t1 : (F + f).toInt = F.toInt + f.toInt := by
    rw [Int64.toInt_add, Int.bmod_def]; omega
  have t2 : (shlL x (nI (mx b k - b)) + shlL a (nI (mx b k - k))).toInt = x.toInt * 2 ^ (mx b k - b) + a.toInt * 2 ^ (mx b k - k) := by
    rw [Int64.toInt_add, v1, w1, Int.bmod_def]; omega
  rw [t1, t2, s1, s2, Int.add_mul]
theorem Rel_set {S : CS} {N : MSt} (hR : Rel S N) {z j : Nat} (hz : 8 ≤ z) {f u : Int64} {v : Int32} (h : PF f u v) (fd fs : Int32) (pu : Int64) (pd : Int32) : Rel S (N.1, N.2.1, N.2.2.1, N.2.2.2.1, vp_updL (abM N) (13 * z + j) u, upd (blM N) (13 * z + j) v, fd, fs, pu, pd) := by
  obtain ⟨n, n1, n2, n3, n4, _⟩ := h
  refine ⟨hR.1, hR.2.1, hR.2.2.1, hR.2.2.2.1, hR.2.2.2.2.1, hR.2.2.2.2.2.1, ?_, ?_, ?_⟩
  · intro i hi
    show ∃ b, b ≤ 20 ∧ upd (blM N) (13 * z + j) v i = nI b
    unfold upd
    by_cases q : i = 13 * z + j
    · rw [if_pos q]; exact ⟨n, n1, n2⟩
    · rw [if_neg q]; exact hR.hB i hi
  · intro i hi
    show -1000000000 ≤ (vp_updL (abM N) (13 * z + j) u i).toInt ∧ (vp_updL (abM N) (13 * z + j) u i).toInt ≤ 1000000000
    unfold vp_updL
    by_cases q : i = 13 * z + j
    · rw [if_pos q]; exact ⟨n3, n4⟩
    · rw [if_neg q]; exact hR.hA i hi
  · intro y hy i hi
    show PF _ (vp_updL (abM N) (13 * z + j) u (13 * y + i)) (upd (blM N) (13 * z + j) v (13 * y + i))
    unfold vp_updL upd
    rw [if_neg (by omega), if_neg (by omega)]
    exact hR.2.2.2.2.2.2.2.2 y hy i hi
theorem SR_set {N : MSt} {z j : Nat} {g : Nat → Int64} (hg : SR g N z) {f u : Int64} {v : Int32} (h : PF f u v) (fd fs : Int32) (pu : Int64) (pd : Int32) : SR (vp_updL g j f) (N.1, N.2.1, N.2.2.1, N.2.2.2.1, vp_updL (abM N) (13 * z + j) u, upd (blM N) (13 * z + j) v, fd, fs, pu, pd) z := by
  intro i hi
  show PF (vp_updL g j f i) (vp_updL (abM N) (13 * z + j) u (13 * z + i)) (upd (blM N) (13 * z + j) v (13 * z + i))
  unfold vp_updL upd
  by_cases q : i = j
  · rw [if_pos q, if_pos (by omega), if_pos (by omega)]; exact h
  · rw [if_neg q, if_neg (by omega), if_neg (by omega)]; exact hg i hi
theorem SR_ne {N : MSt} {z z2 j : Nat} (hz : z2 ≠ z) (hj : j < 13) {g : Nat → Int64} (hg : SR g N z2) {u : Int64} {v : Int32} (fd fs : Int32) (pu : Int64) (pd : Int32) : SR g (N.1, N.2.1, N.2.2.1, N.2.2.2.1, vp_updL (abM N) (13 * z + j) u, upd (blM N) (13 * z + j) v, fd, fs, pu, pd) z2 := by
  intro i hi
  show PF (g i) (vp_updL (abM N) (13 * z + j) u (13 * z2 + i)) (upd (blM N) (13 * z + j) v (13 * z2 + i))
  unfold vp_updL upd
  rw [if_neg (by omega), if_neg (by omega)]; exact hg i hi
theorem isEx_eq (e : Int32) : inL e.toInt64 (-6) 6 = isEx e := inL_gen e (-6) 6 (a := -6) (b := 6) rfl rfl
theorem put_eq {S : CS} {N : MSt} (hR : Rel S N) {z : Nat} (hz : 8 ≤ z) {g : Nat → Int64} (hg : SR g N z) (e : Int32) {f a : Int64} {k : Nat} (hf : FA f a k) :
    (putF g e f).1 = (mPut N z e a k).1 ∧ Rel S (mPut N z e a k).2 ∧ SR (putF g e f).2 (mPut N z e a k).2 z ∧ ∀ z2, z2 ≠ z → ∀ g2, SR g2 N z2 → SR g2 (mPut N z e a k).2 z2 := by
  unfold putF mPut
  rw [isEx_eq]
  cases he : isEx e with
  | false => rw [cond_false, cond_false]; exact ⟨rfl, hR, hg, fun _ _ _ h => h⟩
  | true =>
    rw [cond_true, cond_true]
    obtain ⟨j, hj, ej, ec⟩ := e_slot (e := e) (by rw [isEx_eq]; exact he)
    rw [ec]
    have hx := (hg j hj).fa
    rw [if_neg hf.ne]
    unfold mPutJ
    have m3 := (mx_eq hx.1 hf.1).2.2
    have hv := putV_eq hx hf
    have hp := pl_scale m3 hv
    have hr := rd_scale m3 hv
    generalize putV (abM N (13 * z + j)) (blM N (13 * z + j)).toNatClampNeg a k = V at *
    generalize mx (blM N (13 * z + j)).toNatClampNeg k = m at *
    cases hq : plM V m with
    | true =>
      rw [hq] at hp
      obtain ⟨t1, t2, t3⟩ := facO_t (x := g j + f) (k := 20) (by decide) hp
      rw [hr] at t1
      have t2b : ¬ facO (g j + f) 20 = 1152921504606846976 := t2
      rw [if_neg t2b, cond_true]
      exact ⟨rfl, Rel_set hR hz t1 _ _ _ _, SR_set hg t1 _ _ _ _, fun z2 h2 g2 hg2 => SR_ne h2 hj hg2 _ _ _ _⟩
    | false =>
      rw [hq] at hp
      have t2 : facO (g j + f) 20 = 1152921504606846976 := facO_f (x := g j + f) (k := 20) (by decide) hp
      rw [if_pos t2, cond_false]
      exact ⟨rfl, hR, hg, fun _ _ _ h => h⟩
theorem sn_mul {sn a : Int64} (hs : sn = 1 ∨ sn = -1) (a1 : -2000000000000000000 ≤ a.toInt) (a2 : a.toInt ≤ 2000000000000000000) : (sn * a).toInt = sn.toInt * a.toInt ∧ (sn.toInt = 1 ∨ sn.toInt = -1) := by
  have e1 : (1 : Int64).toInt = 1 := rfl
  have e2 : (-1 : Int64).toInt = -1 := rfl
  rcases hs with h | h <;> subst h
  · rw [Int64.toInt_mul, e1, Int.bmod_def]; omega
  · rw [Int64.toInt_mul, e2, Int.bmod_def]; omega
theorem mul_bd {x y : Int} (x1 : -1000000000 ≤ x) (x2 : x ≤ 1000000000) (y1 : -1000000000 ≤ y) (y2 : y ≤ 1000000000) : -1000000000000000000 ≤ x * y ∧ x * y ≤ 1000000000000000000 := by
  have h : (x * y).natAbs ≤ 1000000000 * 1000000000 := by
    rw [Int.natAbs_mul]; exact Nat.mul_le_mul (by omega) (by omega)
  omega
theorem mul_i {a b : Int64} (x1 : -1000000000 ≤ a.toInt) (x2 : a.toInt ≤ 1000000000) (y1 : -1000000000 ≤ b.toInt) (y2 : b.toInt ≤ 1000000000) : (a * b).toInt = a.toInt * b.toInt := by
  have h := mul_bd x1 x2 y1 y2
  rw [Int64.toInt_mul, Int.bmod_def]; omega
theorem lng32 {a : Int64} (h1 : -1000000000 ≤ a.toInt) (h2 : a.toInt ≤ 1000000000) : a.toInt32.toInt64 = a := by
  apply Int64.toInt_inj.mp
  rw [Int32.toInt_toInt64, Int64.toInt_toInt32, Int.bmod_def]; omega
theorem PF.lb {f a : Int64} {b : Int32} (h : PF f a b) : lBel f 20 = b ∧ lAbo f 20 = a.toInt32 := by
  obtain ⟨l1, l2⟩ := lb_spec f (k := 20) (by decide)
  rw [h.rd] at l1 l2
  exact ⟨l1.trans h.get.1.symm, congrArg Int64.toInt32 l2⟩
theorem facP_eq {f a h b : Int64} {k l : Int32} (hf : PF f a k) (hh : PF h b l) : facP f h = facO (a * b) (nI (k.toNatClampNeg + l.toNatClampNeg)) := by
  unfold facP
  obtain ⟨f0, f1, f2, f3, _⟩ := hf.get
  obtain ⟨h0, h1, h2, h3, _⟩ := hh.get
  rw [hf.lb.1, hf.lb.2, hh.lb.1, hh.lb.2, lng32 f2 f3, lng32 h2 h3, ← nI_add, ← f0, ← h0]
theorem rd_sn {K : Nat} {X Y sn : Int64} (hs : sn = 1 ∨ sn = -1) (e : Y.toInt = sn.toInt * X.toInt) (y1 : -2000000000000000000 ≤ X.toInt) (y2 : X.toInt ≤ 2000000000000000000) : rdM K Y = (sn * (rdM K X).1, (rdM K X).2) := by
  obtain ⟨r1, r2, r3⟩ := rd_spec K X
  have p := pw_pos (K - (rdM K X).2)
  have ub : -2000000000000000000 ≤ (rdM K X).1.toInt ∧ (rdM K X).1.toInt ≤ 2000000000000000000 := by
    have hn : X.toInt.natAbs = (rdM K X).1.toInt.natAbs * ((2 : Int) ^ (K - (rdM K X).2)).natAbs := by
      rw [← Int.natAbs_mul, ← r2]
    have h2 : (rdM K X).1.toInt.natAbs * 1 ≤ (rdM K X).1.toInt.natAbs * ((2 : Int) ^ (K - (rdM K X).2)).natAbs := Nat.mul_le_mul_left _ (by omega)
    omega
  obtain ⟨s1, s2⟩ := sn_mul (a := (rdM K X).1) hs ub.1 ub.2
  obtain ⟨u1, u2⟩ := rd_of (k := K) (a := Y) (u := sn.toInt * (rdM K X).1.toInt) (d := (rdM K X).2) r1 (by
    rcases r3 with q | q
    · exact Or.inl q
    · right; rcases s2 with w | w <;> rw [w] <;> omega) (by rw [e, Int.mul_assoc, ← r2])
  exact Prod.ext (Int64.toInt_inj.mp (by rw [u1, s1])) u2
theorem pl_sn {K : Nat} (hK : K < 2 ^ 31) {X Y sn : Int64} (hs : sn = 1 ∨ sn = -1) (e : rdM K Y = (sn * (rdM K X).1, (rdM K X).2)) (y1 : -2000000000000000000 ≤ (rdM K X).1.toInt) (y2 : (rdM K X).1.toInt ≤ 2000000000000000000) : plM Y K = plM X K := by
  have p1 := pl_iff (a := X) hK
  have p2 := pl_iff (a := Y) hK
  obtain ⟨s1, s2⟩ := sn_mul (a := (rdM K X).1) hs y1 y2
  rw [e, s1] at p2
  have : plM Y K = true ↔ plM X K = true := by
    rw [p1, p2]
    rcases s2 with w | w <;> rw [w] <;> constructor <;> rintro ⟨a, b, c⟩ <;> refine ⟨?_, ?_, c⟩ <;> omega
  cases h1 : plM X K with
  | true => exact this.mpr h1
  | false =>
    cases h2 : plM Y K with
    | true => rw [this.mp h2] at h1; cases h1
    | false => rfl
theorem zz57a : True := trivial
