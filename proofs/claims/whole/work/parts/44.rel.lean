def PF (f a : Int64) (b : Int32) : Prop := ∃ n : Nat, n ≤ 20 ∧ b = nI n ∧ -1000000000 ≤ a.toInt ∧ a.toInt ≤ 1000000000 ∧ (n = 0 ∨ a.toInt % 2 = 1) ∧ f.toInt = a.toInt * 2 ^ (20 - n)
def Rel (S : CS) (M : MSt) : Prop := S.2.2.1 = M.1 ∧ S.2.2.2.1 = M.2.1 ∧ S.1 = M.2.2.1 ∧ S.2.1 = M.2.2.2.1 ∧ HD M ∧ (∀ i : Nat, i < 12 → S.2.2.2.2.1 i = wC (M.2.1 i) (M.1 i).toNatClampNeg) ∧ HB M ∧ HA M ∧ ∀ z : Nat, z < 8 → ∀ j : Nat, j < 13 → PF (S.2.2.2.2.2 z j) (abM M (13 * z + j)) (blM M (13 * z + j))
theorem Rel.hd {S : CS} {M : MSt} (h : Rel S M) : HD M := h.2.2.2.2.1
theorem Rel.hB {S : CS} {M : MSt} (h : Rel S M) : HB M := h.2.2.2.2.2.2.1
theorem Rel.hA {S : CS} {M : MSt} (h : Rel S M) : HA M := h.2.2.2.2.2.2.2.1
theorem Rel.hdc {S : CS} {M : MSt} (h : Rel S M) : ∀ q : Int32, isReg q = true → ∃ k : Nat, k ≤ 24 ∧ dyC S q = nI k := fun q hq => by
  show ∃ k : Nat, k ≤ 24 ∧ S.2.2.1 q.toNatClampNeg = nI k
  rw [h.1]; exact HD.r h.hd hq
