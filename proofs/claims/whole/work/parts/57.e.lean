def msk (c : Nat) : Nat → Nat
  | 0 => 0
  | n + 1 => c + 256 * msk c n
theorem and_cat {a b c d : Nat} (ha : a < 256) (hc : c < 256) : (a + 256 * b) &&& (c + 256 * d) = (a &&& c) + 256 * (b &&& d) := by
  have ha2 : a < 2 ^ 8 := ha
  have hc2 : c < 2 ^ 8 := hc
  have hx : a &&& c < 2 ^ 8 := Nat.lt_of_le_of_lt Nat.and_le_left ha2
  apply Nat.eq_of_testBit_eq
  intro i
  rw [show a + 256 * b = 2 ^ 8 * b + a from Nat.add_comm _ _, show c + 256 * d = 2 ^ 8 * d + c from Nat.add_comm _ _, show (a &&& c) + 256 * (b &&& d) = 2 ^ 8 * (b &&& d) + (a &&& c) from Nat.add_comm _ _, Nat.testBit_and, Nat.testBit_two_pow_mul_add _ ha2, Nat.testBit_two_pow_mul_add _ hc2, Nat.testBit_two_pow_mul_add _ hx]
  by_cases h : i < 8
  · rw [if_pos h, if_pos h, if_pos h, Nat.testBit_and]
  · rw [if_neg h, if_neg h, if_neg h, Nat.testBit_and]
def n1 (n x : Nat) : Nat := x - ((x / 2) &&& msk 85 n)
def n2 (n x : Nat) : Nat := (x &&& msk 51 n) + ((x / 4) &&& msk 51 n)
def n3 (n x : Nat) : Nat := (x + x / 16) &&& msk 15 n
def b1 (a : Nat) : Nat := a - ((a / 2) &&& 85)
def b2 (a : Nat) : Nat := (a &&& 51) + ((a / 4) &&& 51)
def b3 (a : Nat) : Nat := (a + a / 16) &&& 15
def pcb (a : Nat) : Nat := b3 (b2 (b1 a))
theorem n1_t : ∀ a : Fin 256, ∀ r : Fin 2, ((a.val / 2 + 128 * r.val) &&& 85) = ((a.val / 2) &&& 85) := by decide +kernel
theorem n2_t : ∀ a : Fin 256, ∀ r : Fin 4, ((a.val / 4 + 64 * r.val) &&& 51) = ((a.val / 4) &&& 51) := by decide +kernel
theorem n3_t : ∀ a : Fin 69, ∀ r : Fin 5, ((a.val + a.val / 16 + 16 * r.val) &&& 15) = ((a.val + a.val / 16) &&& 15) := by decide +kernel
theorem pcb_t : ∀ a : Fin 256, b2 (b1 a.val) < 69 ∧ b2 (b1 a.val) % 16 < 5 ∧ pcb a.val ≤ 8 ∧ (pcb a.val = 0 → a.val = 0) ∧ (pcb a.val = 1 → ∃ k : Fin 8, a.val = 2 ^ k.val) := by decide +kernel
theorem n1_s {n a b : Nat} (ha : a < 256) : n1 (n + 1) (a + 256 * b) = b1 a + 256 * n1 n b := by
  unfold n1 b1
  rw [msk, show (a + 256 * b) / 2 = (a / 2 + 128 * (b % 2)) + 256 * (b / 2) from by omega, and_cat (by omega) (by decide), n1_t ⟨a, ha⟩ ⟨b % 2, Nat.mod_lt _ (by decide)⟩]
  have h1 : (a / 2) &&& 85 ≤ a / 2 := Nat.and_le_left
  have h2 : (b / 2) &&& msk 85 n ≤ b / 2 := Nat.and_le_left
  show a + 256 * b - (((a / 2) &&& 85) + 256 * ((b / 2) &&& msk 85 n)) = _
  generalize (a / 2) &&& 85 = u at *
  generalize (b / 2) &&& msk 85 n = v at *
  omega
theorem n2_s {n a b : Nat} (ha : a < 256) : n2 (n + 1) (a + 256 * b) = b2 a + 256 * n2 n b := by
  unfold n2 b2
  rw [msk, show (a + 256 * b) / 4 = (a / 4 + 64 * (b % 4)) + 256 * (b / 4) from by omega, and_cat (by omega) (by decide), and_cat (by omega) (by decide), n2_t ⟨a, ha⟩ ⟨b % 4, Nat.mod_lt _ (by decide)⟩]
  show ((a &&& 51) + 256 * (b &&& msk 51 n)) + (((a / 4) &&& 51) + 256 * ((b / 4) &&& msk 51 n)) = _
  omega
theorem n3_s {n a b : Nat} (ha : a < 69) (hb : b % 16 < 5) : n3 (n + 1) (a + 256 * b) = b3 a + 256 * n3 n b := by
  unfold n3 b3
  rw [msk, show a + 256 * b + (a + 256 * b) / 16 = (a + a / 16 + 16 * (b % 16)) + 256 * (b + b / 16) from by omega, and_cat (by omega) (by decide), n3_t ⟨a, ha⟩ ⟨b % 16, hb⟩]
def nP (n x : Nat) : Nat := n3 n (n2 n (n1 n x))
theorem b1_lt {a : Nat} (h : a < 256) : b1 a < 256 := Nat.lt_of_le_of_lt (Nat.sub_le _ _) h
theorem n2_lo : ∀ (n x : Nat), n2 n (n1 n x) % 16 < 5
  | 0, x => by
    show ((n1 0 x &&& 0) + ((n1 0 x / 4) &&& 0)) % 16 < 5
    rw [Nat.and_zero, Nat.and_zero]; decide
  | n + 1, x => by
    have hx : x % 256 < 256 := Nat.mod_lt _ (by decide)
    have t := (pcb_t ⟨x % 256, hx⟩).2.1
    rw [show n1 (n + 1) x = n1 (n + 1) (x % 256 + 256 * (x / 256)) from by rw [Nat.mod_add_div], n1_s hx, n2_s (b1_lt hx)]
    show (b2 (b1 (x % 256)) + 256 * n2 n (n1 n (x / 256))) % 16 < 5
    have t2 : b2 (b1 (x % 256)) % 16 < 5 := t
    omega
theorem nP_s (n x : Nat) : nP (n + 1) x = pcb (x % 256) + 256 * nP n (x / 256) := by
  have hx : x % 256 < 256 := Nat.mod_lt _ (by decide)
  have t := (pcb_t ⟨x % 256, hx⟩).1
  unfold nP
  rw [show n1 (n + 1) x = n1 (n + 1) (x % 256 + 256 * (x / 256)) from by rw [Nat.mod_add_div], n1_s hx, n2_s (b1_lt hx), n3_s t (n2_lo _ _)]
  rfl
theorem nP_0 (x : Nat) : nP 0 x = 0 := by
  show _ &&& 0 = 0
  exact Nat.and_zero _
def nT : Nat → Nat → Nat
  | 0, _ => 0
  | n + 1, x => pcb (x % 256) + nT n (x / 256)
theorem nT_0 : ∀ (n x : Nat), x < 256 ^ n → nT n x = 0 → x = 0
  | 0, x, h, _ => by rw [Nat.pow_zero] at h; omega
  | n + 1, x, h, e => by
    have hx : x % 256 < 256 := Nat.mod_lt _ (by decide)
    rw [nT] at e
    rw [Nat.pow_succ] at h
    have t : pcb (x % 256) = 0 → x % 256 = 0 := (pcb_t ⟨x % 256, hx⟩).2.2.2.1
    have h2 := nT_0 n (x / 256) (by omega) (by omega)
    have := t (by omega)
    omega
theorem nT_1 : ∀ (n x : Nat), x < 256 ^ n → nT n x = 1 → ∃ k : Nat, x = 2 ^ k
  | 0, x, _, e => by rw [nT] at e; cases e
  | n + 1, x, h, e => by
    have hx : x % 256 < 256 := Nat.mod_lt _ (by decide)
    rw [nT] at e
    rw [Nat.pow_succ] at h
    have t : pcb (x % 256) = 0 → x % 256 = 0 := (pcb_t ⟨x % 256, hx⟩).2.2.2.1
    have t1 : pcb (x % 256) = 1 → ∃ k : Fin 8, x % 256 = 2 ^ k.val := (pcb_t ⟨x % 256, hx⟩).2.2.2.2
    by_cases q : pcb (x % 256) = 0
    · obtain ⟨k, hk⟩ := nT_1 n (x / 256) (by omega) (by omega)
      refine ⟨k + 8, ?_⟩
      rw [Nat.pow_add, show (2 : Nat) ^ 8 = 256 from rfl, ← hk]
      have := t q
      omega
    · obtain ⟨k, hk⟩ := t1 (by omega)
      have := nT_0 n (x / 256) (by omega) (by omega)
      exact ⟨k.val, by omega⟩
theorem s_a {p0 Y1 : Nat} (h0 : p0 ≤ 8) : (p0 + 256 * Y1) / 256 = Y1 := by omega
theorem s_b {p0 p1 p2 Y2 Y3 : Nat} (h0 : p0 ≤ 8) (h1 : p1 ≤ 8) (h2 : p2 ≤ 8) : ((p0 + 256 * (p1 + 256 * Y2)) + (p1 + 256 * (p2 + 256 * Y3))) / 65536 = Y2 + Y3 := by omega
theorem s_l {p0 p1 p2 p3 Y4 : Nat} (h0 : p0 ≤ 8) (h1 : p1 ≤ 8) (h2 : p2 ≤ 8) (h3 : p3 ≤ 8) : ∃ l, l ≤ 1073741824 / 2 ∧ p0 + 256 * (p1 + 256 * (p2 + 256 * (p3 + 256 * Y4))) = l + 4294967296 * Y4 := ⟨p0 + 256 * p1 + 65536 * p2 + 16777216 * p3, by omega, by omega⟩
theorem s_c {a b c d Y4 Y5 Y6 Y7 : Nat} (ha : a ≤ 1073741824 / 2) (hb : b ≤ 1073741824 / 2) (hc : c ≤ 1073741824 / 2) (hd : d ≤ 1073741824 / 2) : ((a + 4294967296 * Y4) + (b + 4294967296 * Y5) + ((c + 4294967296 * Y6) + (d + 4294967296 * Y7))) / 4294967296 = Y4 + Y5 + (Y6 + Y7) := by omega
theorem n_sum {p0 p1 p2 p3 p4 p5 p6 p7 : Nat} {Y0 Y1 Y2 Y3 Y4 Y5 Y6 Y7 : Nat} (h0 : p0 ≤ 8) (h1 : p1 ≤ 8) (h2 : p2 ≤ 8) (h3 : p3 ≤ 8) (h4 : p4 ≤ 8) (h5 : p5 ≤ 8) (h6 : p6 ≤ 8) (h7 : p7 ≤ 8) (e0 : Y0 = p0 + 256 * Y1) (e1 : Y1 = p1 + 256 * Y2) (e2 : Y2 = p2 + 256 * Y3) (e3 : Y3 = p3 + 256 * Y4) (e4 : Y4 = p4 + 256 * Y5) (e5 : Y5 = p5 + 256 * Y6) (e6 : Y6 = p6 + 256 * Y7) (e7 : Y7 = p7) : Y0 < 2 ^ 61 ∧ Y0 / 256 = Y1 ∧ Y0 + Y1 < 2 ^ 62 ∧ (Y0 + Y1) / 65536 = Y2 + Y3 ∧ Y0 + Y1 + (Y2 + Y3) < 2 ^ 63 ∧ (Y0 + Y1 + (Y2 + Y3)) / 4294967296 = Y4 + Y5 + (Y6 + Y7) ∧ Y0 + Y1 + (Y2 + Y3) + (Y4 + Y5 + (Y6 + Y7)) < 2 ^ 64 ∧ (Y0 + Y1 + (Y2 + Y3) + (Y4 + Y5 + (Y6 + Y7))) % 128 = p0 + (p1 + (p2 + (p3 + (p4 + (p5 + (p6 + (p7 + 0))))))) := by
  have c6 : Y6 ≤ 4096 := by clear e0 e1 e2 e3 e4 e5; omega
  have c5 : Y5 ≤ 4096 * 512 := by clear e0 e1 e2 e3 e4 e6; omega
  have c4 : Y4 ≤ 4096 * 512 * 512 := by clear e0 e1 e2 e3 e5 e6; omega
  have c3 : Y3 ≤ 4096 * 512 * 512 * 257 := by clear e0 e1 e2 e4 e5 e6; omega
  have c2 : Y2 ≤ 4096 * 512 * 512 * 257 * 257 := by clear e0 e1 e3 e4 e5 e6; omega
  have c1 : Y1 ≤ 4096 * 512 * 512 * 257 * 257 * 257 := by clear e0 e2 e3 e4 e5 e6; omega
  have c0 : Y0 < 2 ^ 61 := by
    have : Y0 ≤ 8 + 256 * Y1 := by clear e1 e2 e3 e4 e5 e6; omega
    have t : Y1 < 2 ^ 52 := by
      have : Y1 ≤ 8 + 256 * Y2 := by clear e0 e2 e3 e4 e5 e6; omega
      have : Y2 ≤ 8 + 256 * Y3 := by clear e0 e1 e3 e4 e5 e6; omega
      have : Y3 ≤ 8 + 256 * Y4 := by clear e0 e1 e2 e4 e5 e6; omega
      have : Y4 ≤ 8 + 256 * Y5 := by clear e0 e1 e2 e3 e5 e6; omega
      have : Y5 ≤ 8 + 256 * Y6 := by clear e0 e1 e2 e3 e4 e6; omega
      have : Y6 ≤ 2056 := by clear e0 e1 e2 e3 e4 e5; omega
      clear e0 e1 e2 e3 e4 e5 e6 c1 c2 c3 c4 c5 c6
      omega
    clear e0 e1 e2 e3 e4 e5 e6 c1 c2 c3 c4 c5 c6
    omega
  have f1 : Y0 / 256 = Y1 := by rw [e0]; exact s_a h0
  have f2 : (Y0 + Y1) / 65536 = Y2 + Y3 := by rw [e0, e1, e2]; exact s_b h0 h1 h2
  have f3 : (Y0 + Y1 + (Y2 + Y3)) / 4294967296 = Y4 + Y5 + (Y6 + Y7) := by
    obtain ⟨l0, q0, r0⟩ := s_l (Y4 := Y4) h0 h1 h2 h3
    obtain ⟨l1, q1, r1⟩ := s_l (Y4 := Y5) h1 h2 h3 h4
    obtain ⟨l2, q2, r2⟩ := s_l (Y4 := Y6) h2 h3 h4 h5
    obtain ⟨l3, q3, r3⟩ := s_l (Y4 := Y7) h3 h4 h5 h6
    have g3 : Y3 = l3 + 4294967296 * Y7 := by rw [e3, e4, e5, e6]; exact r3
    have g2 : Y2 = l2 + 4294967296 * Y6 := by rw [e2, e3, e4, e5]; exact r2
    have g1 : Y1 = l1 + 4294967296 * Y5 := by rw [e1, e2, e3, e4]; exact r1
    have g0 : Y0 = l0 + 4294967296 * Y4 := by rw [e0, e1, e2, e3]; exact r0
    rw [g0, g1, g2, g3]
    exact s_c q0 q1 q2 q3
  have d1 : Y1 ≤ Y0 := by clear e1 e2 e3 e4 e5 e6 f1 f2 f3; omega
  have d2 : Y2 ≤ Y1 := by clear e0 e2 e3 e4 e5 e6 f1 f2 f3; omega
  have d3 : Y3 ≤ Y2 := by clear e0 e1 e3 e4 e5 e6 f1 f2 f3; omega
  have d4 : Y4 ≤ Y3 := by clear e0 e1 e2 e4 e5 e6 f1 f2 f3; omega
  have d5 : Y5 ≤ Y4 := by clear e0 e1 e2 e3 e5 e6 f1 f2 f3; omega
  have d6 : Y6 ≤ Y5 := by clear e0 e1 e2 e3 e4 e6 f1 f2 f3; omega
  have d7 : Y7 ≤ Y6 := by clear e0 e1 e2 e3 e4 e5 f1 f2 f3; omega
  have hm : Y0 + Y1 + (Y2 + Y3) + (Y4 + Y5 + (Y6 + Y7)) = (p0 + (p1 + (p2 + (p3 + (p4 + (p5 + (p6 + (p7 + 0)))))))) + 128 * (2 * (Y1 + Y2 + Y3 + Y4 + Y5 + Y6 + Y7)) := by
    clear c0 c1 c2 c3 c4 c5 c6 f1 f2 f3 d1 d2 d3 d4 d5 d6 d7
    omega
  refine ⟨c0, f1, by omega, f2, ?_, f3, ?_, ?_⟩
  · clear e0 e1 e2 e3 e4 e5 e6 f1 f2 f3 hm c1 c2 c3 c4 c5 c6; omega
  · clear e0 e1 e2 e3 e4 e5 e6 f1 f2 f3 hm c1 c2 c3 c4 c5 c6; omega
  · rw [hm, Nat.add_mul_mod_self_left, Nat.mod_eq_of_lt]
    clear e0 e1 e2 e3 e4 e5 e6 f1 f2 f3 hm c1 c2 c3 c4 c5 c6; omega
theorem zz57e : True := trivial
