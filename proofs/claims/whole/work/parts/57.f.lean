theorem ush {k : Nat} (hk : k < 64) (x : Int64) : (ushrL x (nI k)).toBitVec.toNat = x.toBitVec.toNat / 2 ^ k := by
  have es : ∀ k : Fin 64, ((nI k.val).toInt64.toUInt64 &&& Int64.toUInt64 63).toNat % 64 = k.val := by decide +kernel
  have e1 := es ⟨k, hk⟩
  unfold ushrL
  show (x.toUInt64 >>> ((nI k).toInt64.toUInt64 &&& Int64.toUInt64 63)).toNat = _
  rw [UInt64.toNat_shiftRight, e1, Nat.shiftRight_eq_div_pow]
  rfl
theorem c1_n (x : Int64) : (bcL1 x).toBitVec.toNat = n1 8 x.toBitVec.toNat := by
  have hx := x.toBitVec.isLt
  have e := ush (k := 1) (by decide) x
  have em : (6148914691236517205 : Int64).toBitVec.toNat = msk 85 8 := by decide +kernel
  unfold bcL1 n1
  rw [Int64.toBitVec_sub, BitVec.toNat_sub, Int64.toBitVec_and, BitVec.toNat_and, em, show ushrL x 1 = ushrL x (nI 1) from rfl, e, show (2 : Nat) ^ 1 = 2 from rfl]
  have h2 : (x.toBitVec.toNat / 2) &&& msk 85 8 ≤ x.toBitVec.toNat / 2 := Nat.and_le_left
  generalize (x.toBitVec.toNat / 2) &&& msk 85 8 = u at *
  omega
theorem c2_n (x : Int64) : (bcL2 x).toBitVec.toNat = n2 8 x.toBitVec.toNat := by
  have e := ush (k := 2) (by decide) x
  have em : (3689348814741910323 : Int64).toBitVec.toNat = msk 51 8 := by decide +kernel
  have el : msk 51 8 = 3689348814741910323 := by decide +kernel
  unfold bcL2 n2
  rw [Int64.toBitVec_add, BitVec.toNat_add, Int64.toBitVec_and, Int64.toBitVec_and, BitVec.toNat_and, BitVec.toNat_and, em, show ushrL x 2 = ushrL x (nI 2) from rfl, e, show (2 : Nat) ^ 2 = 4 from rfl]
  have h1 : x.toBitVec.toNat &&& msk 51 8 ≤ msk 51 8 := Nat.and_le_right
  have h2 : (x.toBitVec.toNat / 4) &&& msk 51 8 ≤ msk 51 8 := Nat.and_le_right
  rw [el] at h1 h2 ⊢
  generalize (x.toBitVec.toNat / 4) &&& 3689348814741910323 = u at *
  generalize x.toBitVec.toNat &&& 3689348814741910323 = v at *
  exact Nat.mod_eq_of_lt (by omega)
theorem n2_le (x : Nat) : n2 8 x ≤ 2 * 3689348814741910323 := by
  have el : msk 51 8 = 3689348814741910323 := by decide +kernel
  unfold n2
  have h1 : x &&& msk 51 8 ≤ msk 51 8 := Nat.and_le_right
  have h2 : (x / 4) &&& msk 51 8 ≤ msk 51 8 := Nat.and_le_right
  rw [el] at h1 h2 ⊢
  omega
theorem c3_n (x : Int64) (h : x.toBitVec.toNat ≤ 2 * 3689348814741910323) : (bcL3 x).toBitVec.toNat = n3 8 x.toBitVec.toNat := by
  have e := ush (k := 4) (by decide) x
  have em : (1085102592571150095 : Int64).toBitVec.toNat = msk 15 8 := by decide +kernel
  unfold bcL3 n3
  rw [Int64.toBitVec_and, BitVec.toNat_and, Int64.toBitVec_add, BitVec.toNat_add, em, show ushrL x 4 = ushrL x (nI 4) from rfl, e, show (2 : Nat) ^ 4 = 16 from rfl, Nat.mod_eq_of_lt (by omega)]
theorem c456 (x : Int64) (f : Int64 → Int64) {k d : Nat} (hk : k < 64) (hd : 2 ^ k = d) (hf : ∀ y, f y = y + ushrL y (nI k)) (h : x.toBitVec.toNat + x.toBitVec.toNat / d < 2 ^ 64) : (f x).toBitVec.toNat = x.toBitVec.toNat + x.toBitVec.toNat / d := by
  rw [hf, Int64.toBitVec_add, BitVec.toNat_add, ush hk, hd, Nat.mod_eq_of_lt h]
theorem nT_s (n x : Nat) : nT (n + 1) x = pcb (x % 256) + nT n (x / 256) := rfl
theorem pc8 (x : Nat) : pcb (x % 256) ≤ 8 := (pcb_t ⟨x % 256, Nat.mod_lt _ (by decide)⟩).2.2.1
theorem bc_1 {x : Int64} (h : bcL x = 1) : ∃ k : Nat, x.toBitVec.toNat = 2 ^ k := by
  have hx := x.toBitVec.isLt
  have e3 : (bcL3 (bcL2 (bcL1 x))).toBitVec.toNat = nP 8 x.toBitVec.toNat := by
    rw [c3_n _ (by rw [c2_n]; exact n2_le _), c2_n, c1_n]; rfl
  refine nT_1 8 _ hx ?_
  unfold bcL at h
  generalize bcL3 (bcL2 (bcL1 x)) = z at *
  generalize x.toBitVec.toNat = X at *
  obtain ⟨x1, hx1⟩ : ∃ x1, X / 256 = x1 := ⟨_, rfl⟩
  obtain ⟨x2, hx2⟩ : ∃ x2, x1 / 256 = x2 := ⟨_, rfl⟩
  obtain ⟨x3, hx3⟩ : ∃ x3, x2 / 256 = x3 := ⟨_, rfl⟩
  obtain ⟨x4, hx4⟩ : ∃ x4, x3 / 256 = x4 := ⟨_, rfl⟩
  obtain ⟨x5, hx5⟩ : ∃ x5, x4 / 256 = x5 := ⟨_, rfl⟩
  obtain ⟨x6, hx6⟩ : ∃ x6, x5 / 256 = x6 := ⟨_, rfl⟩
  obtain ⟨x7, hx7⟩ : ∃ x7, x6 / 256 = x7 := ⟨_, rfl⟩
  have q0 := nP_s 7 X
  have q1 := nP_s 6 x1
  have q2 := nP_s 5 x2
  have q3 := nP_s 4 x3
  have q4 := nP_s 3 x4
  have q5 := nP_s 2 x5
  have q6 := nP_s 1 x6
  have q7 := nP_s 0 x7
  rw [hx1] at q0
  rw [hx2] at q1
  rw [hx3] at q2
  rw [hx4] at q3
  rw [hx5] at q4
  rw [hx6] at q5
  rw [hx7] at q6
  rw [nP_0, Nat.mul_zero, Nat.add_zero] at q7
  obtain ⟨c0, f1, c1, f2, c2, f3, c3, f4⟩ := n_sum (pc8 X) (pc8 x1) (pc8 x2) (pc8 x3) (pc8 x4) (pc8 x5) (pc8 x6) (pc8 x7) q0 q1 q2 q3 q4 q5 q6 q7
  have t : nT 8 X = pcb (X % 256) + (pcb (x1 % 256) + (pcb (x2 % 256) + (pcb (x3 % 256) + (pcb (x4 % 256) + (pcb (x5 % 256) + (pcb (x6 % 256) + (pcb (x7 % 256) + 0))))))) := by
    rw [show nT 8 X = _ from nT_s 7 X, hx1, show nT 7 x1 = _ from nT_s 6 x1, hx2, show nT 6 x2 = _ from nT_s 5 x2, hx3, show nT 5 x3 = _ from nT_s 4 x3, hx4, show nT 4 x4 = _ from nT_s 3 x4, hx5, show nT 3 x5 = _ from nT_s 2 x5, hx6, show nT 2 x6 = _ from nT_s 1 x6, hx7, show nT 1 x7 = _ from nT_s 0 x7, nT]
  rw [t, ← f4]
  have e3b : z.toBitVec.toNat = nP (7 + 1) X := e3
  have g4 : (bcL4 z).toBitVec.toNat = nP (7 + 1) X + nP (6 + 1) x1 := by
    rw [c456 z bcL4 (k := 8) (d := 256) (by decide) rfl (fun _ => rfl) (by rw [e3b, f1]; exact Nat.lt_trans c1 (by decide)), e3b, f1]
  generalize bcL4 z = z4 at *
  have g5 : (bcL5 z4).toBitVec.toNat = nP (7 + 1) X + nP (6 + 1) x1 + (nP (5 + 1) x2 + nP (4 + 1) x3) := by
    rw [c456 z4 bcL5 (k := 16) (d := 65536) (by decide) rfl (fun _ => rfl) (by rw [g4, f2]; exact Nat.lt_trans c2 (by decide)), g4, f2]
  generalize bcL5 z4 = z5 at *
  have g6 : (bcL6 z5).toBitVec.toNat = nP (7 + 1) X + nP (6 + 1) x1 + (nP (5 + 1) x2 + nP (4 + 1) x3) + (nP (3 + 1) x4 + nP (2 + 1) x5 + (nP (1 + 1) x6 + nP (0 + 1) x7)) := by
    rw [c456 z5 bcL6 (k := 32) (d := 4294967296) (by decide) rfl (fun _ => rfl) (by rw [g5, f3]; exact c3), g5, f3]
  generalize bcL6 z5 = z6 at *
  rw [← g6]
  have h2 := congrArg (fun w : Int32 => w.toBitVec.toNat) h
  have h3 : (z6.toInt32 &&& 127).toBitVec.toNat = 1 := h2
  rw [Int32.toBitVec_and, BitVec.toNat_and, show (127 : Int32).toBitVec.toNat = 2 ^ 7 - 1 from rfl, Nat.and_two_pow_sub_one_eq_mod, Int64.toBitVec_toInt32, BitVec.signExtend_eq_setWidth_of_le _ (by decide), BitVec.toNat_setWidth] at h3
  clear q0 q1 q2 q3 q4 q5 q6 q7 c0 c1 c2 c3 f1 f2 f3 f4 t g4 g5 g6 hx1 hx2 hx3 hx4 hx5 hx6 hx7 hx e3 e3b
  omega
theorem bc_p : ∀ k : Fin 63, bcL (Int64.ofNat (2 ^ k.val)) = 1 := by decide +kernel
theorem zz57f : True := trivial
