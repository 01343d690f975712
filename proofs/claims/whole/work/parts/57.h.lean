theorem sg_i {a b : Int64} (h1 : -1000000000 ≤ a.toInt) (h2 : a.toInt ≤ 1000000000) : (0 ≤ b → (a * sgnD b).toInt = a.toInt) ∧ (¬ 0 ≤ b → (a * sgnD b).toInt = -a.toInt) := by
  unfold sgnD
  constructor
  · intro q
    rw [if_pos q, mul_i h1 h2 (by decide) (by decide), show (1 : Int64).toInt = 1 from rfl, Int.mul_one]
  · intro q
    rw [if_neg q, mul_i h1 h2 (by decide) (by decide), show (-1 : Int64).toInt = -1 from rfl]
    omega
theorem dk_i {b8 jj by' : Nat} (h1 : b8 ≤ 20) (h2 : jj < 31) (h3 : by' ≤ 20) : (nI b8 + nI jj - nI by').toInt = (b8 : Int) + jj - by' := by
  rw [Int32.toInt_sub, Int32.toInt_add, nI_toInt (by omega), nI_toInt (by omega), nI_toInt (by omega), Int.bmod_def, Int.bmod_def]
  omega
theorem fq {f8 a8 fy ay : Int64} {l8 ly : Int32} (h8 : PF f8 a8 l8) (z8 : ¬ f8 = 0) (hy : PF fy ay ly) (zy : ¬ fy = 0) {jj : Nat} (hj : (szL 31 (absD ay) 0).2 = jj) {k : Int32} (hk : k = nI l8.toNatClampNeg + nI jj - nI ly.toNatClampNeg) : ∃ (F : Int64) (Kc : Nat), Kc < 64 ∧ facQ f8 fy = facO F (nI Kc) ∧ rdM Kc F = rdM (dkN k) (db2 (a8 * sgnD ay) k) ∧ plM F Kc = plM (db2 (a8 * sgnD ay) k) (dkN k) ∧ ¬ (rdM (dkN k) (db2 (a8 * sgnD ay) k)).1 = 0 := by
  obtain ⟨d1, d2, _, d4⟩ := dv_y hy zy
  rw [hj] at d1 d2
  have bd := h8.fa.bd
  obtain ⟨_, p1, p2, p3, _, p5⟩ := h8.get
  obtain ⟨_, y1, _, _, _, _⟩ := hy.get
  have e0 : (0 : Int32).toInt = 0 := rfl
  have z8i : f8.toInt ≠ 0 := fun q => z8 (Int64.toInt_inj.mp q)
  obtain ⟨s1, s2⟩ := sg_i (b := ay) p2 p3
  have ki := dk_i p1 d1 y1
  rw [← hk] at ki
  have key : ∃ F : Int64, facQ f8 fy = facO F (nI (jj + (20 - ly.toNatClampNeg))) ∧ F.toInt = (a8 * sgnD ay).toInt * 2 ^ (20 - l8.toNatClampNeg) ∧ F.toInt ≠ 0 ∧ -1000000000 ≤ (a8 * sgnD ay).toInt ∧ (a8 * sgnD ay).toInt ≤ 1000000000 := by
    unfold facQ
    rw [d2]
    by_cases q : 0 ≤ ay
    · rw [if_pos (d4.mpr q)]
      exact ⟨f8, rfl, by rw [s1 q, p5], z8i, by rw [s1 q]; exact p2, by rw [s1 q]; exact p3⟩
    · rw [if_neg (fun w => q (d4.mp w))]
      have en : (-f8).toInt = -f8.toInt := neg_i (by omega)
      exact ⟨-f8, rfl, by rw [s2 q, Int.neg_mul, en, p5], by omega, by rw [s2 q]; omega, by rw [s2 q]; omega⟩
  obtain ⟨F, k1, k2, k3, k4, k5⟩ := key
  clear s1 s2 z8i p5 d2 d4
  generalize a8 * sgnD ay = b at *
  have sc : dkN k ≤ jj + (20 - ly.toNatClampNeg) ∧ F.toInt = (db2 b k).toInt * 2 ^ (jj + (20 - ly.toNatClampNeg) - dkN k) := by
    unfold dkN db2
    by_cases q : 0 ≤ k
    · rw [if_pos q, if_pos q]
      rw [Int32.le_iff_toInt_le, e0] at q
      have ek : k = nI (l8.toNatClampNeg + jj - ly.toNatClampNeg) := by
        apply Int32.toInt_inj.mp
        rw [ki, nI_toInt (by omega)]
        omega
      rw [ek, nI_clamp (by omega)]
      refine ⟨by omega, ?_⟩
      rw [k2, show jj + (20 - ly.toNatClampNeg) - (l8.toNatClampNeg + jj - ly.toNatClampNeg) = 20 - l8.toNatClampNeg from by omega]
    · rw [if_neg q, if_neg q]
      rw [Int32.le_iff_toInt_le, e0] at q
      have ek : -k = nI (ly.toNatClampNeg - (l8.toNatClampNeg + jj)) := by
        apply Int32.toInt_inj.mp
        rw [Int32.toInt_neg, ki, nI_toInt (by omega), Int.bmod_def]
        omega
      rw [ek, show (0 : Int32).toNatClampNeg = 0 from rfl, (shl_sm (x := b) (d := ly.toNatClampNeg - (l8.toNatClampNeg + jj)) (by omega) k4 k5).1]
      refine ⟨Nat.zero_le _, ?_⟩
      rw [k2, Int.mul_assoc, ← Int.pow_add, show ly.toNatClampNeg - (l8.toNatClampNeg + jj) + (jj + (20 - ly.toNatClampNeg) - 0) = 20 - l8.toNatClampNeg from by omega]
  refine ⟨F, jj + (20 - ly.toNatClampNeg), by omega, k1, rd_scale sc.1 sc.2, pl_scale sc.1 sc.2, fun q => ?_⟩
  have r2 := (rd_spec (dkN k) (db2 b k)).2.1
  rw [q, show (0 : Int64).toInt = 0 from rfl, Int.zero_mul] at r2
  have := sc.2
  rw [r2, Int.zero_mul] at this
  exact k3 this
theorem dg_eq {S : CS} {y : Nat} (hy : y < 8) {fe : Int32} {fac up : Int64} {dn : Nat} (hd : dn ≤ 20) (u1 : -1000000000 ≤ up.toInt) (u2 : up.toInt ≤ 1000000000) (hf : PF fac (-1 * up) (nI dn)) {r : Nat → Int64} : ∀ (j : Nat), j ≤ 13 → ∀ (N : MSt) (g : Nat → Int64), Rel S N → SR g N 8 → SR r N 9 → (ppF (fC S y) fe fac j g).1 = (dgL y up dn fe j N).1 ∧ Rel S (dgL y up dn fe j N).2 ∧ SR (ppF (fC S y) fe fac j g).2 (dgL y up dn fe j N).2 8 ∧ SR r (dgL y up dn fe j N).2 9
  | 0, _, N, g, hR, hg, hr => ⟨rfl, hR, hg, hr⟩
  | j + 1, hj, N, g, hR, hg, hr => by
    have hP := hR.pf hy (j := j) (by omega)
    rw [ppF, dgL]
    by_cases h0 : fC S y j = 0
    · rw [if_pos h0, if_pos (hP.zero.mp h0)]
      exact dg_eq hy hd u1 u2 hf j (by omega) N g hR hg hr
    · rw [if_neg h0, if_neg (fun q => h0 (hP.zero.mpr q)), ex_as]
      obtain ⟨p1, p2, p3, p4⟩ := mul_eq hR (z := 8) (by decide) hg (fe + (nI j - 6)) (Or.inr rfl) hd u1 u2 hf hP
      have p5 := p4 9 (by decide) r hr
      unfold bN
      generalize putF g (fe + (nI j - 6)) (facP fac (fC S y j)) = P at *
      generalize mMul N 8 (fe + (nI j - 6)) up dn (abM N (13 * y + j)) (blM N (13 * y + j)).toNatClampNeg (-1) = Q at *
      obtain ⟨b, g'⟩ := P
      obtain ⟨b', N'⟩ := Q
      have p1b : b = b' := p1
      subst p1b
      cases b with
      | true => rw [cond_true, cond_true]; exact dg_eq hy hd u1 u2 hf j (by omega) N' g' p2 p3 p5
      | false => rw [cond_false, cond_false]; exact ⟨rfl, p2, p3, p5⟩
theorem ex_df {f g : Nat} (hf : f < 13) (hg : g < 13) : (nI f - 6) - (nI g - 6) = nI f - nI g := by
  apply Int32.toInt_inj.mp
  rw [Int32.toInt_sub, e_int (k := 6) (by omega) rfl (by decide), e_int (k := 6) (by omega) rfl (by decide), Int32.toInt_sub, nI_toInt (by omega), nI_toInt (by omega), Int.bmod_def, Int.bmod_def]
  omega
theorem put_mn (r : Nat → Int64) (e : Int32) : putF r e (1152921504606846976) = (false, r) := by
  unfold putF
  cases isEx e with
  | false => rw [cond_false]
  | true => rw [cond_true, if_pos rfl]
theorem rnd_eq {S : CS} {N : MSt} (hR : Rel S N) {y : Nat} (hy : y < 8) {g2 : Nat} (hg : g2 < 13) (zy : ¬ fC S y g2 = 0) {a : Int64} (ea : abM N (13 * y + g2) = a) {f2 : Nat} (hf2 : f2 < 13) {r q : Nat → Int64} (hr : SR r N 9) (hq : SR q N 8) (zq : ¬ q f2 = 0) {jj : Nat} (hj : (szL 31 (absD a) 0).2 = jj) :
    (dOnce (fC S y) (nI g2) (nI f2) r q).1 = (mRnd N a y g2 jj f2).1 ∧ Rel S (mRnd N a y g2 jj f2).2 ∧ SR (dOnce (fC S y) (nI g2) (nI f2) r q).2.1 (mRnd N a y g2 jj f2).2 9 ∧ SR (dOnce (fC S y) (nI g2) (nI f2) r q).2.2 (mRnd N a y g2 jj f2).2 8 := by
  have hY := hR.pf hy hg
  rw [ea] at hY
  obtain ⟨F, Kc, k1, k2, k3, k4, k5⟩ := fq (hq f2 hf2) zq hY zy hj (k := dk N y g2 jj f2) rfl
  unfold dOnce mRnd rndG
  rw [nI_clamp (show f2 < 2 ^ 31 by omega), nI_clamp (show g2 < 2 ^ 31 by omega), ex_df hf2 hg]
  unfold rdB rdK
  rw [k2]
  generalize db2 (abM N (13 * 8 + f2) * sgnD a) (dk N y g2 jj f2) = B at *
  generalize dkN (dk N y g2 jj f2) = K at *
  generalize nI f2 - nI g2 = fe at *
  cases hp : plM B K with
  | false =>
    rw [hp] at k4
    rw [facO_f k1 k4, put_mn, cond_false]
    exact ⟨rfl, hR, hr, hq⟩
  | true =>
    rw [hp] at k4
    obtain ⟨t1, t2, t3⟩ := facO_t k1 k4
    obtain ⟨q1, q2, q3⟩ := (pl_iff (by omega)).mp k4
    rw [k3] at t1 t3 q1 q2 q3
    rw [if_neg k5] at t1
    rw [cond_true]
    generalize facO F (nI Kc) = fac at *
    generalize (rdM K B).1 = up at *
    generalize (rdM K B).2 = dn at *
    obtain ⟨p1, p2, p3, p4⟩ := put_eq (N := mPl N B K) hR (z := 9) (by decide) hr fe (f := fac) (a := up) (k := dn) ⟨q3, q1, q2, t3⟩
    have p5 := p4 8 (by decide) q hq
    have hf : PF (-fac) (-1 * up) (nI dn) := PF.sn (less := true) (sn := -1) rfl t1
    generalize putF r fe fac = P at *
    generalize mPut (mPl N B K) 9 fe up dn = Q at *
    obtain ⟨b, g'⟩ := P
    obtain ⟨b', N'⟩ := Q
    have p1b : b = b' := p1
    subst p1b
    unfold rnE
    cases b with
    | false => rw [cond_false, cond_false]; exact ⟨rfl, p2, p3, p5⟩
    | true =>
      rw [cond_true, cond_true]
      obtain ⟨w1, w2, w3, w4⟩ := dg_eq hy q3 q1 q2 hf (fe := fe) (r := g') 13 (Nat.le_refl _) N' q p2 p5 p3
      exact ⟨w1, w2, w4, w3⟩
theorem zz57h : True := trivial
