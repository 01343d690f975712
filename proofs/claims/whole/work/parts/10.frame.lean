abbrev KT : Type := va_G × ClassId × ClassId × ClassId
abbrev tysK (K : KT) : List (ClassId × FieldType) := [(K.2.1, .int), (K.2.2.1, .long), (K.2.2.2, .object RX0)]
abbrev aI (K : KT) (a n : Nat) (f : Nat → Int32) : Nat × va_E := (a, .inl (K.2.1, n, .inl f))
abbrev aJ (K : KT) (a n : Nat) (f : Nat → Int64) : Nat × va_E := (a, .inl (K.2.2.1, n, .inr (.inl f)))
abbrev aO (K : KT) (a n : Nat) (f : Nat → Option Nat) : Nat × va_E := (a, .inl (K.2.2.2, n, .inr (.inr (.inr (.inr f)))))
abbrev oB (a ci : Nat) (fs : List Value) : Nat × va_E := (a, .inr (ci, fs))
abbrev LV : Type := List (Nat × Value)
def lk : LV → Nat → Option Value
  | [], _ => none
  | q :: t, i => bif Nat.beq q.1 i then some q.2 else lk t i
theorem lk_mem : ∀ {lv : LV} {i : Nat} {v : Value}, lk lv i = some v → (i, v) ∈ lv
  | [], _, _, h => by cases h
  | q :: t, i, v, h => by
    cases e : Nat.beq q.1 i with
    | true =>
      have h2 : some q.2 = some v := by have h3 := h; simp only [lk, e, cond_true] at h3; exact h3
      have e2 : q.1 = i := Nat.eq_of_beq_eq_true e
      have e3 : q.2 = v := Option.some.inj h2
      rw [← e2, ← e3]
      exact List.mem_cons_self
    | false =>
      have h3 := h
      simp only [lk, e, cond_false] at h3
      exact List.mem_cons_of_mem _ (lk_mem h3)
theorem lk_at {ls : Array Slot} {nL : Nat} {lv : LV} (hl : lv_has ls nL lv) {i : Nat} {v : Value} (h : lk lv i = some v) : ls[i]? = some (.val v) := hl.2.2 (i, v) (lk_mem h)
def lins (i : Nat) (v : Value) : LV → LV
  | [] => [(i, v)]
  | q :: t => bif Nat.blt i q.1 then (i, v) :: q :: t else q :: lins i v t
theorem lins_mem {i : Nat} {v : Value} : ∀ {l : LV} {q : Nat × Value}, q ∈ lins i v l → q ∈ (i, v) :: l
  | [], q, h => h
  | x :: t, q, h => by
    cases e : Nat.blt i x.1 with
    | true => simp only [lins, e, cond_true] at h; exact h
    | false =>
      simp only [lins, e, cond_false] at h
      rcases List.mem_cons.mp h with h | h
      · rw [h]; exact List.mem_cons_of_mem _ List.mem_cons_self
      · rcases List.mem_cons.mp (lins_mem h) with h | h
        · rw [h]; exact List.mem_cons_self
        · exact List.mem_cons_of_mem _ (List.mem_cons_of_mem _ h)
theorem lv_wk {ls : Array Slot} {nL : Nat} {a b : LV} (h : lv_has ls nL a) (hs : ∀ q ∈ b, q ∈ a) : lv_has ls nL b := ⟨h.1, h.2.1, fun q hq => h.2.2 q (hs q hq)⟩
def st1 (i : Nat) (v : Value) (lv : LV) : LV := lins i v (lv.filter (fun q => !(q.1 == i) && !(q.1 + 1 == i && q.2.category == 2)))
def st2 (i : Nat) (v : Value) (lv : LV) : LV := lins i v (lv.filter (fun q => !(q.1 == i) && (!(q.1 == i + 1) && !(q.1 + 1 == i && q.2.category == 2))))
abbrev EnvT : Type := Program × Launch × Env × Room × State × MethodId × Array Value × List Frame × Method × Code × (State → Prop) × (Nat → Prop) × Nat
def G (E : EnvT) (K : KT) (kc ks : Nat) (Wd : va_W) (lv : LV) (pc : Nat) (st : List Value) : Prop :=
  match E with
  | (p, l, e, R, s, m, args, below, meth, c, Q, A, nL) => ∀ (H : Heap) (locs : List Loc) (ls : Array Slot), va_P K.1 vwCl Wd H → va_D A Wd → va_S A s.heap H locs → lv_has ls nL lv → W p l e R s m args below meth c H locs kc ks Q (F0 m pc ls st)
def Ok (E : EnvT) (K : KT) (cc : ByteArray) (own : String) (nL : Nat) (R : Room) : Prop :=
  match E with
  | (p, _, _, R1, s, m, args, _, _, c, _, A, nL1) => p.tables.exec = Jvm.exec ∧ c.code = cc ∧ c.maxLocals = nL1 ∧ s.vm.findClass own = some m.cls ∧ (∀ w ∈ lw_G, w.before args s = true) ∧ NW s ∧ va_K K.1 vwCl (tysK K) s ∧ (∀ q, s.heap.size ≤ q → A q) ∧ R1 = R ∧ nL1 = nL
theorem g_iconst {E : EnvT} {K : KT} {cc : ByteArray} {own : String} {nL : Nat} {R : Room} {kc ks : Nat} {Wd : va_W} {lv : List (Nat × Value)} {pc : Nat} {st : List Value} {n : Int} {v : Int32} (C : Ok E K cc own nL R) (d : decode cc pc = .ok (.iconst n, 1)) (hv : Int32.ofInt n = v) (k : G E K kc ks Wd lv (pc + 1) (.int v :: st)) : G E K kc ks Wd lv pc st := by
  obtain ⟨p, l, e, R1, s, m, args, below, meth, c, Q, A, nL1⟩ := E
  obtain ⟨hx, hb, hml, hown, hts, hN, hK, hA, rfl, rfl⟩ := C
  intro H locs ls hP hD hS hl
  exact lv_iconst hx hb d hv (k H locs ls hP hD hS hl)
theorem g_bipush {E : EnvT} {K : KT} {cc : ByteArray} {own : String} {nL : Nat} {R : Room} {kc ks : Nat} {Wd : va_W} {lv : List (Nat × Value)} {pc : Nat} {st : List Value} {n : Int} {v : Int32} (C : Ok E K cc own nL R) (d : decode cc pc = .ok (.bipush n, 2)) (hv : (Int8.ofInt n).toInt32 = v) (k : G E K kc ks Wd lv (pc + 2) (.int v :: st)) : G E K kc ks Wd lv pc st := by
  obtain ⟨p, l, e, R1, s, m, args, below, meth, c, Q, A, nL1⟩ := E
  obtain ⟨hx, hb, hml, hown, hts, hN, hK, hA, rfl, rfl⟩ := C
  intro H locs ls hP hD hS hl
  exact lv_bipush hx hb d hv (k H locs ls hP hD hS hl)
theorem g_sipush {E : EnvT} {K : KT} {cc : ByteArray} {own : String} {nL : Nat} {R : Room} {kc ks : Nat} {Wd : va_W} {lv : List (Nat × Value)} {pc : Nat} {st : List Value} {n : Int} {v : Int32} (C : Ok E K cc own nL R) (d : decode cc pc = .ok (.sipush n, 3)) (hv : (Int16.ofInt n).toInt32 = v) (k : G E K kc ks Wd lv (pc + 3) (.int v :: st)) : G E K kc ks Wd lv pc st := by
  obtain ⟨p, l, e, R1, s, m, args, below, meth, c, Q, A, nL1⟩ := E
  obtain ⟨hx, hb, hml, hown, hts, hN, hK, hA, rfl, rfl⟩ := C
  intro H locs ls hP hD hS hl
  exact lv_sipush hx hb d hv (k H locs ls hP hD hS hl)
theorem g_lconst {E : EnvT} {K : KT} {cc : ByteArray} {own : String} {nL : Nat} {R : Room} {kc ks : Nat} {Wd : va_W} {lv : List (Nat × Value)} {pc : Nat} {st : List Value} {n : Fin 2} {v : Int64} (C : Ok E K cc own nL R) (d : decode cc pc = .ok (.lconst n, 1)) (hv : Int64.ofNat (n : Nat) = v) (k : G E K kc ks Wd lv (pc + 1) (.long v :: st)) : G E K kc ks Wd lv pc st := by
  obtain ⟨p, l, e, R1, s, m, args, below, meth, c, Q, A, nL1⟩ := E
  obtain ⟨hx, hb, hml, hown, hts, hN, hK, hA, rfl, rfl⟩ := C
  intro H locs ls hP hD hS hl
  exact lv_lconst hx hb d hv (k H locs ls hP hD hS hl)
theorem g_ldc {E : EnvT} {K : KT} {cc : ByteArray} {own : String} {nL : Nat} {R : Room} {kc ks : Nat} {Wd : va_W} {lv : List (Nat × Value)} {pc : Nat} {st : List Value} {index : Nat} {v : Int32} (C : Ok E K cc own nL R) (d : decode cc pc = .ok (.ldc index, 2)) (hc : Cond.constant own index v ∈ lw_G) (k : G E K kc ks Wd lv (pc + 2) (.int v :: st)) : G E K kc ks Wd lv pc st := by
  obtain ⟨p, l, e, R1, s, m, args, below, meth, c, Q, A, nL1⟩ := E
  obtain ⟨hx, hb, hml, hown, hts, hN, hK, hA, rfl, rfl⟩ := C
  intro H locs ls hP hD hS hl
  exact lv_ldc hx hb hown (hts _ hc) d (k H locs ls hP hD hS hl)
theorem g_ldcw {E : EnvT} {K : KT} {cc : ByteArray} {own : String} {nL : Nat} {R : Room} {kc ks : Nat} {Wd : va_W} {lv : List (Nat × Value)} {pc : Nat} {st : List Value} {index : Nat} {v : Int32} (C : Ok E K cc own nL R) (d : decode cc pc = .ok (.ldc_w index, 3)) (hc : Cond.constant own index v ∈ lw_G) (k : G E K kc ks Wd lv (pc + 3) (.int v :: st)) : G E K kc ks Wd lv pc st := by
  obtain ⟨p, l, e, R1, s, m, args, below, meth, c, Q, A, nL1⟩ := E
  obtain ⟨hx, hb, hml, hown, hts, hN, hK, hA, rfl, rfl⟩ := C
  intro H locs ls hP hD hS hl
  exact lv_ldcw hx hb hown (hts _ hc) d (k H locs ls hP hD hS hl)
theorem g_ldc2 {E : EnvT} {K : KT} {cc : ByteArray} {own : String} {nL : Nat} {R : Room} {kc ks : Nat} {Wd : va_W} {lv : List (Nat × Value)} {pc : Nat} {st : List Value} {index : Nat} {v : Int64} (C : Ok E K cc own nL R) (d : decode cc pc = .ok (.ldc2_w index, 3)) (hc : Cond.constantLong own index v ∈ lw_G) (k : G E K kc ks Wd lv (pc + 3) (.long v :: st)) : G E K kc ks Wd lv pc st := by
  obtain ⟨p, l, e, R1, s, m, args, below, meth, c, Q, A, nL1⟩ := E
  obtain ⟨hx, hb, hml, hown, hts, hN, hK, hA, rfl, rfl⟩ := C
  intro H locs ls hP hD hS hl
  exact lv_ldc2 hx hb hown (hts _ hc) d (k H locs ls hP hD hS hl)
theorem g_iload {E : EnvT} {K : KT} {cc : ByteArray} {own : String} {nL : Nat} {R : Room} {kc ks : Nat} {Wd : va_W} {lv : List (Nat × Value)} {pc : Nat} {st : List Value} {i : Nat} {x : Int32} (C : Ok E K cc own nL R) (d : decode cc pc = .ok (.iload i, 2)) (hi : lk lv i = some (.int x)) (k : G E K kc ks Wd lv (pc + 2) (.int x :: st)) : G E K kc ks Wd lv pc st := by
  obtain ⟨p, l, e, R1, s, m, args, below, meth, c, Q, A, nL1⟩ := E
  obtain ⟨hx, hb, hml, hown, hts, hN, hK, hA, rfl, rfl⟩ := C
  intro H locs ls hP hD hS hl
  exact lv_iload hx hb d (lk_at hl hi) (k H locs ls hP hD hS hl)
theorem g_iload_n {E : EnvT} {K : KT} {cc : ByteArray} {own : String} {nL : Nat} {R : Room} {kc ks : Nat} {Wd : va_W} {lv : List (Nat × Value)} {pc : Nat} {st : List Value} {n : Fin 4} {i : Nat} {x : Int32} (C : Ok E K cc own nL R) (d : decode cc pc = .ok (.iload_n n, 1)) (hn : (n : Nat) = i) (hi : lk lv i = some (.int x)) (k : G E K kc ks Wd lv (pc + 1) (.int x :: st)) : G E K kc ks Wd lv pc st := by
  obtain ⟨p, l, e, R1, s, m, args, below, meth, c, Q, A, nL1⟩ := E
  obtain ⟨hx, hb, hml, hown, hts, hN, hK, hA, rfl, rfl⟩ := C
  intro H locs ls hP hD hS hl
  exact lv_iload_n hx hb d hn (lk_at hl hi) (k H locs ls hP hD hS hl)
theorem g_istore {E : EnvT} {K : KT} {cc : ByteArray} {own : String} {nL : Nat} {R : Room} {kc ks : Nat} {Wd : va_W} {lv : List (Nat × Value)} {pc : Nat} {st : List Value} {i : Nat} {x : Int32} {lv2 : LV} (C : Ok E K cc own nL R) (d : decode cc pc = .ok (.istore i, 2)) (hn2 : i < nL) (he : st1 i (.int x) lv = lv2) (k : G E K kc ks Wd lv2 (pc + 2) st) : G E K kc ks Wd lv pc (.int x :: st) := by
  obtain ⟨p, l, e, R1, s, m, args, below, meth, c, Q, A, nL1⟩ := E
  obtain ⟨hx, hb, hml, hown, hts, hN, hK, hA, rfl, rfl⟩ := C
  intro H locs ls hP hD hS hl
  exact lv_istore hx hb d hl hn2 rfl (fun ls2 hl2 => k H locs ls2 hP hD hS (lv_wk hl2 (fun q hq => lins_mem (by rw [← he] at hq; exact hq))))
theorem g_istore_n {E : EnvT} {K : KT} {cc : ByteArray} {own : String} {nL : Nat} {R : Room} {kc ks : Nat} {Wd : va_W} {lv : List (Nat × Value)} {pc : Nat} {st : List Value} {i : Nat} {n : Fin 4} {x : Int32} {lv2 : LV} (C : Ok E K cc own nL R) (d : decode cc pc = .ok (.istore_n n, 1)) (hn : (n : Nat) = i) (hn2 : i < nL) (he : st1 i (.int x) lv = lv2) (k : G E K kc ks Wd lv2 (pc + 1) st) : G E K kc ks Wd lv pc (.int x :: st) := by
  obtain ⟨p, l, e, R1, s, m, args, below, meth, c, Q, A, nL1⟩ := E
  obtain ⟨hx, hb, hml, hown, hts, hN, hK, hA, rfl, rfl⟩ := C
  intro H locs ls hP hD hS hl
  exact lv_istore_n hx hb d hn hl hn2 rfl (fun ls2 hl2 => k H locs ls2 hP hD hS (lv_wk hl2 (fun q hq => lins_mem (by rw [← he] at hq; exact hq))))
theorem g_lload {E : EnvT} {K : KT} {cc : ByteArray} {own : String} {nL : Nat} {R : Room} {kc ks : Nat} {Wd : va_W} {lv : List (Nat × Value)} {pc : Nat} {st : List Value} {i : Nat} {x : Int64} (C : Ok E K cc own nL R) (d : decode cc pc = .ok (.lload i, 2)) (hi : lk lv i = some (.long x)) (k : G E K kc ks Wd lv (pc + 2) (.long x :: st)) : G E K kc ks Wd lv pc st := by
  obtain ⟨p, l, e, R1, s, m, args, below, meth, c, Q, A, nL1⟩ := E
  obtain ⟨hx, hb, hml, hown, hts, hN, hK, hA, rfl, rfl⟩ := C
  intro H locs ls hP hD hS hl
  exact lv_lload hx hb d (lk_at hl hi) (k H locs ls hP hD hS hl)
theorem g_lload_n {E : EnvT} {K : KT} {cc : ByteArray} {own : String} {nL : Nat} {R : Room} {kc ks : Nat} {Wd : va_W} {lv : List (Nat × Value)} {pc : Nat} {st : List Value} {n : Fin 4} {i : Nat} {x : Int64} (C : Ok E K cc own nL R) (d : decode cc pc = .ok (.lload_n n, 1)) (hn : (n : Nat) = i) (hi : lk lv i = some (.long x)) (k : G E K kc ks Wd lv (pc + 1) (.long x :: st)) : G E K kc ks Wd lv pc st := by
  obtain ⟨p, l, e, R1, s, m, args, below, meth, c, Q, A, nL1⟩ := E
  obtain ⟨hx, hb, hml, hown, hts, hN, hK, hA, rfl, rfl⟩ := C
  intro H locs ls hP hD hS hl
  exact lv_lload_n hx hb d hn (lk_at hl hi) (k H locs ls hP hD hS hl)
theorem g_lstore {E : EnvT} {K : KT} {cc : ByteArray} {own : String} {nL : Nat} {R : Room} {kc ks : Nat} {Wd : va_W} {lv : List (Nat × Value)} {pc : Nat} {st : List Value} {i : Nat} {x : Int64} {lv2 : LV} (C : Ok E K cc own nL R) (d : decode cc pc = .ok (.lstore i, 2)) (hn2 : i + 1 < nL) (he : st2 i (.long x) lv = lv2) (k : G E K kc ks Wd lv2 (pc + 2) st) : G E K kc ks Wd lv pc (.long x :: st) := by
  obtain ⟨p, l, e, R1, s, m, args, below, meth, c, Q, A, nL1⟩ := E
  obtain ⟨hx, hb, hml, hown, hts, hN, hK, hA, rfl, rfl⟩ := C
  intro H locs ls hP hD hS hl
  exact lv_lstore hx hb d hl hn2 rfl (fun ls2 hl2 => k H locs ls2 hP hD hS (lv_wk hl2 (fun q hq => lins_mem (by rw [← he] at hq; exact hq))))
theorem g_lstore_n {E : EnvT} {K : KT} {cc : ByteArray} {own : String} {nL : Nat} {R : Room} {kc ks : Nat} {Wd : va_W} {lv : List (Nat × Value)} {pc : Nat} {st : List Value} {i : Nat} {n : Fin 4} {x : Int64} {lv2 : LV} (C : Ok E K cc own nL R) (d : decode cc pc = .ok (.lstore_n n, 1)) (hn : (n : Nat) = i) (hn2 : i + 1 < nL) (he : st2 i (.long x) lv = lv2) (k : G E K kc ks Wd lv2 (pc + 1) st) : G E K kc ks Wd lv pc (.long x :: st) := by
  obtain ⟨p, l, e, R1, s, m, args, below, meth, c, Q, A, nL1⟩ := E
  obtain ⟨hx, hb, hml, hown, hts, hN, hK, hA, rfl, rfl⟩ := C
  intro H locs ls hP hD hS hl
  exact lv_lstore_n hx hb d hn hl hn2 rfl (fun ls2 hl2 => k H locs ls2 hP hD hS (lv_wk hl2 (fun q hq => lins_mem (by rw [← he] at hq; exact hq))))
theorem g_aload {E : EnvT} {K : KT} {cc : ByteArray} {own : String} {nL : Nat} {R : Room} {kc ks : Nat} {Wd : va_W} {lv : List (Nat × Value)} {pc : Nat} {st : List Value} {i : Nat} {x : Nat} (C : Ok E K cc own nL R) (d : decode cc pc = .ok (.aload i, 2)) (hi : lk lv i = some (.ref x)) (k : G E K kc ks Wd lv (pc + 2) (.ref x :: st)) : G E K kc ks Wd lv pc st := by
  obtain ⟨p, l, e, R1, s, m, args, below, meth, c, Q, A, nL1⟩ := E
  obtain ⟨hx, hb, hml, hown, hts, hN, hK, hA, rfl, rfl⟩ := C
  intro H locs ls hP hD hS hl
  exact lv_aload hx hb d (lk_at hl hi) (k H locs ls hP hD hS hl)
theorem g_aload_n {E : EnvT} {K : KT} {cc : ByteArray} {own : String} {nL : Nat} {R : Room} {kc ks : Nat} {Wd : va_W} {lv : List (Nat × Value)} {pc : Nat} {st : List Value} {n : Fin 4} {i : Nat} {x : Nat} (C : Ok E K cc own nL R) (d : decode cc pc = .ok (.aload_n n, 1)) (hn : (n : Nat) = i) (hi : lk lv i = some (.ref x)) (k : G E K kc ks Wd lv (pc + 1) (.ref x :: st)) : G E K kc ks Wd lv pc st := by
  obtain ⟨p, l, e, R1, s, m, args, below, meth, c, Q, A, nL1⟩ := E
  obtain ⟨hx, hb, hml, hown, hts, hN, hK, hA, rfl, rfl⟩ := C
  intro H locs ls hP hD hS hl
  exact lv_aload_n hx hb d hn (lk_at hl hi) (k H locs ls hP hD hS hl)
theorem g_astore {E : EnvT} {K : KT} {cc : ByteArray} {own : String} {nL : Nat} {R : Room} {kc ks : Nat} {Wd : va_W} {lv : List (Nat × Value)} {pc : Nat} {st : List Value} {i : Nat} {x : Nat} {lv2 : LV} (C : Ok E K cc own nL R) (d : decode cc pc = .ok (.astore i, 2)) (hn2 : i < nL) (he : st1 i (.ref x) lv = lv2) (k : G E K kc ks Wd lv2 (pc + 2) st) : G E K kc ks Wd lv pc (.ref x :: st) := by
  obtain ⟨p, l, e, R1, s, m, args, below, meth, c, Q, A, nL1⟩ := E
  obtain ⟨hx, hb, hml, hown, hts, hN, hK, hA, rfl, rfl⟩ := C
  intro H locs ls hP hD hS hl
  exact lv_astore hx hb d hl hn2 rfl (fun ls2 hl2 => k H locs ls2 hP hD hS (lv_wk hl2 (fun q hq => lins_mem (by rw [← he] at hq; exact hq))))
theorem g_astore_n {E : EnvT} {K : KT} {cc : ByteArray} {own : String} {nL : Nat} {R : Room} {kc ks : Nat} {Wd : va_W} {lv : List (Nat × Value)} {pc : Nat} {st : List Value} {i : Nat} {n : Fin 4} {x : Nat} {lv2 : LV} (C : Ok E K cc own nL R) (d : decode cc pc = .ok (.astore_n n, 1)) (hn : (n : Nat) = i) (hn2 : i < nL) (he : st1 i (.ref x) lv = lv2) (k : G E K kc ks Wd lv2 (pc + 1) st) : G E K kc ks Wd lv pc (.ref x :: st) := by
  obtain ⟨p, l, e, R1, s, m, args, below, meth, c, Q, A, nL1⟩ := E
  obtain ⟨hx, hb, hml, hown, hts, hN, hK, hA, rfl, rfl⟩ := C
  intro H locs ls hP hD hS hl
  exact lv_astore_n hx hb d hn hl hn2 rfl (fun ls2 hl2 => k H locs ls2 hP hD hS (lv_wk hl2 (fun q hq => lins_mem (by rw [← he] at hq; exact hq))))
theorem g_iinc {E : EnvT} {K : KT} {cc : ByteArray} {own : String} {nL : Nat} {R : Room} {kc ks : Nat} {Wd : va_W} {lv : List (Nat × Value)} {pc : Nat} {st : List Value} {i : Nat} {n : Int} {x v : Int32} {lv2 : LV} (C : Ok E K cc own nL R) (d : decode cc pc = .ok (.iinc i n, 3)) (hi : lk lv i = some (.int x)) (hv : x + Int32.ofInt n = v) (hn2 : i < nL) (he : st1 i (.int v) lv = lv2) (k : G E K kc ks Wd lv2 (pc + 3) st) : G E K kc ks Wd lv pc st := by
  obtain ⟨p, l, e, R1, s, m, args, below, meth, c, Q, A, nL1⟩ := E
  obtain ⟨hx, hb, hml, hown, hts, hN, hK, hA, rfl, rfl⟩ := C
  intro H locs ls hP hD hS hl
  obtain ⟨j, hj⟩ := List.getElem?_of_mem (lk_mem hi)
  exact lv_iinc hx hb d hl hj hv hn2 rfl (fun ls2 hl2 => k H locs ls2 hP hD hS (lv_wk hl2 (fun q hq => lins_mem (by rw [← he] at hq; exact hq))))
theorem g_dup {E : EnvT} {K : KT} {cc : ByteArray} {own : String} {nL : Nat} {R : Room} {kc ks : Nat} {Wd : va_W} {lv : List (Nat × Value)} {pc : Nat} {st : List Value} {va : Value} (C : Ok E K cc own nL R) (d : decode cc pc = .ok (.dup, 1)) (hva : va.category = 1) (k : G E K kc ks Wd lv (pc + 1) (va :: va :: st)) : G E K kc ks Wd lv pc (va :: st) := by
  obtain ⟨p, l, e, R1, s, m, args, below, meth, c, Q, A, nL1⟩ := E
  obtain ⟨hx, hb, hml, hown, hts, hN, hK, hA, rfl, rfl⟩ := C
  intro H locs ls hP hD hS hl
  exact lv_dup hx hb d hva (k H locs ls hP hD hS hl)
theorem g_iadd {E : EnvT} {K : KT} {cc : ByteArray} {own : String} {nL : Nat} {R : Room} {kc ks : Nat} {Wd : va_W} {lv : List (Nat × Value)} {pc : Nat} {st : List Value} {x y : Int32} (C : Ok E K cc own nL R) (d : decode cc pc = .ok (.iadd, 1))  (k : G E K kc ks Wd lv (pc + 1) (.int (x + y) :: st)) : G E K kc ks Wd lv pc (.int y :: .int x :: st) := by
  obtain ⟨p, l, e, R1, s, m, args, below, meth, c, Q, A, nL1⟩ := E
  obtain ⟨hx, hb, hml, hown, hts, hN, hK, hA, rfl, rfl⟩ := C
  intro H locs ls hP hD hS hl
  exact lv_iadd hx hb d  (k H locs ls hP hD hS hl)
theorem g_isub {E : EnvT} {K : KT} {cc : ByteArray} {own : String} {nL : Nat} {R : Room} {kc ks : Nat} {Wd : va_W} {lv : List (Nat × Value)} {pc : Nat} {st : List Value} {x y : Int32} (C : Ok E K cc own nL R) (d : decode cc pc = .ok (.isub, 1))  (k : G E K kc ks Wd lv (pc + 1) (.int (x - y) :: st)) : G E K kc ks Wd lv pc (.int y :: .int x :: st) := by
  obtain ⟨p, l, e, R1, s, m, args, below, meth, c, Q, A, nL1⟩ := E
  obtain ⟨hx, hb, hml, hown, hts, hN, hK, hA, rfl, rfl⟩ := C
  intro H locs ls hP hD hS hl
  exact lv_isub hx hb d  (k H locs ls hP hD hS hl)
theorem g_imul {E : EnvT} {K : KT} {cc : ByteArray} {own : String} {nL : Nat} {R : Room} {kc ks : Nat} {Wd : va_W} {lv : List (Nat × Value)} {pc : Nat} {st : List Value} {x y : Int32} (C : Ok E K cc own nL R) (d : decode cc pc = .ok (.imul, 1))  (k : G E K kc ks Wd lv (pc + 1) (.int (x * y) :: st)) : G E K kc ks Wd lv pc (.int y :: .int x :: st) := by
  obtain ⟨p, l, e, R1, s, m, args, below, meth, c, Q, A, nL1⟩ := E
  obtain ⟨hx, hb, hml, hown, hts, hN, hK, hA, rfl, rfl⟩ := C
  intro H locs ls hP hD hS hl
  exact lv_imul hx hb d  (k H locs ls hP hD hS hl)
theorem g_iand {E : EnvT} {K : KT} {cc : ByteArray} {own : String} {nL : Nat} {R : Room} {kc ks : Nat} {Wd : va_W} {lv : List (Nat × Value)} {pc : Nat} {st : List Value} {x y : Int32} (C : Ok E K cc own nL R) (d : decode cc pc = .ok (.iand, 1))  (k : G E K kc ks Wd lv (pc + 1) (.int (x &&& y) :: st)) : G E K kc ks Wd lv pc (.int y :: .int x :: st) := by
  obtain ⟨p, l, e, R1, s, m, args, below, meth, c, Q, A, nL1⟩ := E
  obtain ⟨hx, hb, hml, hown, hts, hN, hK, hA, rfl, rfl⟩ := C
  intro H locs ls hP hD hS hl
  exact lv_iand hx hb d  (k H locs ls hP hD hS hl)
theorem g_ior {E : EnvT} {K : KT} {cc : ByteArray} {own : String} {nL : Nat} {R : Room} {kc ks : Nat} {Wd : va_W} {lv : List (Nat × Value)} {pc : Nat} {st : List Value} {x y : Int32} (C : Ok E K cc own nL R) (d : decode cc pc = .ok (.ior, 1))  (k : G E K kc ks Wd lv (pc + 1) (.int (x ||| y) :: st)) : G E K kc ks Wd lv pc (.int y :: .int x :: st) := by
  obtain ⟨p, l, e, R1, s, m, args, below, meth, c, Q, A, nL1⟩ := E
  obtain ⟨hx, hb, hml, hown, hts, hN, hK, hA, rfl, rfl⟩ := C
  intro H locs ls hP hD hS hl
  exact lv_ior hx hb d  (k H locs ls hP hD hS hl)
theorem g_ishl {E : EnvT} {K : KT} {cc : ByteArray} {own : String} {nL : Nat} {R : Room} {kc ks : Nat} {Wd : va_W} {lv : List (Nat × Value)} {pc : Nat} {st : List Value} {x y : Int32} (C : Ok E K cc own nL R) (d : decode cc pc = .ok (.ishl, 1))  (k : G E K kc ks Wd lv (pc + 1) (.int (x <<< (y &&& 31)) :: st)) : G E K kc ks Wd lv pc (.int y :: .int x :: st) := by
  obtain ⟨p, l, e, R1, s, m, args, below, meth, c, Q, A, nL1⟩ := E
  obtain ⟨hx, hb, hml, hown, hts, hN, hK, hA, rfl, rfl⟩ := C
  intro H locs ls hP hD hS hl
  exact lv_ishl hx hb d  (k H locs ls hP hD hS hl)
theorem g_ishr {E : EnvT} {K : KT} {cc : ByteArray} {own : String} {nL : Nat} {R : Room} {kc ks : Nat} {Wd : va_W} {lv : List (Nat × Value)} {pc : Nat} {st : List Value} {x y : Int32} (C : Ok E K cc own nL R) (d : decode cc pc = .ok (.ishr, 1))  (k : G E K kc ks Wd lv (pc + 1) (.int (x >>> (y &&& 31)) :: st)) : G E K kc ks Wd lv pc (.int y :: .int x :: st) := by
  obtain ⟨p, l, e, R1, s, m, args, below, meth, c, Q, A, nL1⟩ := E
  obtain ⟨hx, hb, hml, hown, hts, hN, hK, hA, rfl, rfl⟩ := C
  intro H locs ls hP hD hS hl
  exact lv_ishr hx hb d  (k H locs ls hP hD hS hl)
theorem g_iushr {E : EnvT} {K : KT} {cc : ByteArray} {own : String} {nL : Nat} {R : Room} {kc ks : Nat} {Wd : va_W} {lv : List (Nat × Value)} {pc : Nat} {st : List Value} {x y v : Int32} (C : Ok E K cc own nL R) (d : decode cc pc = .ok (.iushr, 1)) (hv : (x.toUInt32 >>> (y.toUInt32 &&& Int32.toUInt32 31)).toInt32 = v) (k : G E K kc ks Wd lv (pc + 1) (.int v :: st)) : G E K kc ks Wd lv pc (.int y :: .int x :: st) := by
  obtain ⟨p, l, e, R1, s, m, args, below, meth, c, Q, A, nL1⟩ := E
  obtain ⟨hx, hb, hml, hown, hts, hN, hK, hA, rfl, rfl⟩ := C
  intro H locs ls hP hD hS hl
  exact lv_iushr hx hb d hv (k H locs ls hP hD hS hl)
theorem g_ineg {E : EnvT} {K : KT} {cc : ByteArray} {own : String} {nL : Nat} {R : Room} {kc ks : Nat} {Wd : va_W} {lv : List (Nat × Value)} {pc : Nat} {st : List Value} {x : Int32} (C : Ok E K cc own nL R) (d : decode cc pc = .ok (.ineg, 1))  (k : G E K kc ks Wd lv (pc + 1) (.int (-x) :: st)) : G E K kc ks Wd lv pc (.int x :: st) := by
  obtain ⟨p, l, e, R1, s, m, args, below, meth, c, Q, A, nL1⟩ := E
  obtain ⟨hx, hb, hml, hown, hts, hN, hK, hA, rfl, rfl⟩ := C
  intro H locs ls hP hD hS hl
  exact lv_ineg hx hb d  (k H locs ls hP hD hS hl)
theorem g_lneg {E : EnvT} {K : KT} {cc : ByteArray} {own : String} {nL : Nat} {R : Room} {kc ks : Nat} {Wd : va_W} {lv : List (Nat × Value)} {pc : Nat} {st : List Value} {x : Int64} (C : Ok E K cc own nL R) (d : decode cc pc = .ok (.lneg, 1))  (k : G E K kc ks Wd lv (pc + 1) (.long (-x) :: st)) : G E K kc ks Wd lv pc (.long x :: st) := by
  obtain ⟨p, l, e, R1, s, m, args, below, meth, c, Q, A, nL1⟩ := E
  obtain ⟨hx, hb, hml, hown, hts, hN, hK, hA, rfl, rfl⟩ := C
  intro H locs ls hP hD hS hl
  exact lv_lneg hx hb d  (k H locs ls hP hD hS hl)
theorem g_ladd {E : EnvT} {K : KT} {cc : ByteArray} {own : String} {nL : Nat} {R : Room} {kc ks : Nat} {Wd : va_W} {lv : List (Nat × Value)} {pc : Nat} {st : List Value} {x y : Int64} (C : Ok E K cc own nL R) (d : decode cc pc = .ok (.ladd, 1))  (k : G E K kc ks Wd lv (pc + 1) (.long (x + y) :: st)) : G E K kc ks Wd lv pc (.long y :: .long x :: st) := by
  obtain ⟨p, l, e, R1, s, m, args, below, meth, c, Q, A, nL1⟩ := E
  obtain ⟨hx, hb, hml, hown, hts, hN, hK, hA, rfl, rfl⟩ := C
  intro H locs ls hP hD hS hl
  exact lv_ladd hx hb d  (k H locs ls hP hD hS hl)
theorem g_lsub {E : EnvT} {K : KT} {cc : ByteArray} {own : String} {nL : Nat} {R : Room} {kc ks : Nat} {Wd : va_W} {lv : List (Nat × Value)} {pc : Nat} {st : List Value} {x y : Int64} (C : Ok E K cc own nL R) (d : decode cc pc = .ok (.lsub, 1))  (k : G E K kc ks Wd lv (pc + 1) (.long (x - y) :: st)) : G E K kc ks Wd lv pc (.long y :: .long x :: st) := by
  obtain ⟨p, l, e, R1, s, m, args, below, meth, c, Q, A, nL1⟩ := E
  obtain ⟨hx, hb, hml, hown, hts, hN, hK, hA, rfl, rfl⟩ := C
  intro H locs ls hP hD hS hl
  exact lv_lsub hx hb d  (k H locs ls hP hD hS hl)
theorem g_lmul {E : EnvT} {K : KT} {cc : ByteArray} {own : String} {nL : Nat} {R : Room} {kc ks : Nat} {Wd : va_W} {lv : List (Nat × Value)} {pc : Nat} {st : List Value} {x y : Int64} (C : Ok E K cc own nL R) (d : decode cc pc = .ok (.lmul, 1))  (k : G E K kc ks Wd lv (pc + 1) (.long (x * y) :: st)) : G E K kc ks Wd lv pc (.long y :: .long x :: st) := by
  obtain ⟨p, l, e, R1, s, m, args, below, meth, c, Q, A, nL1⟩ := E
  obtain ⟨hx, hb, hml, hown, hts, hN, hK, hA, rfl, rfl⟩ := C
  intro H locs ls hP hD hS hl
  exact lv_lmul hx hb d  (k H locs ls hP hD hS hl)
theorem g_land {E : EnvT} {K : KT} {cc : ByteArray} {own : String} {nL : Nat} {R : Room} {kc ks : Nat} {Wd : va_W} {lv : List (Nat × Value)} {pc : Nat} {st : List Value} {x y : Int64} (C : Ok E K cc own nL R) (d : decode cc pc = .ok (.land, 1))  (k : G E K kc ks Wd lv (pc + 1) (.long (x &&& y) :: st)) : G E K kc ks Wd lv pc (.long y :: .long x :: st) := by
  obtain ⟨p, l, e, R1, s, m, args, below, meth, c, Q, A, nL1⟩ := E
  obtain ⟨hx, hb, hml, hown, hts, hN, hK, hA, rfl, rfl⟩ := C
  intro H locs ls hP hD hS hl
  exact lv_land hx hb d  (k H locs ls hP hD hS hl)
theorem g_ldiv {E : EnvT} {K : KT} {cc : ByteArray} {own : String} {nL : Nat} {R : Room} {kc ks : Nat} {Wd : va_W} {lv : List (Nat × Value)} {pc : Nat} {st : List Value} {x y : Int64} (C : Ok E K cc own nL R) (d : decode cc pc = .ok (.ldiv, 1)) (hne : ¬ y = 0) (k : G E K kc ks Wd lv (pc + 1) (.long (x / y) :: st)) : G E K kc ks Wd lv pc (.long y :: .long x :: st) := by
  obtain ⟨p, l, e, R1, s, m, args, below, meth, c, Q, A, nL1⟩ := E
  obtain ⟨hx, hb, hml, hown, hts, hN, hK, hA, rfl, rfl⟩ := C
  intro H locs ls hP hD hS hl
  exact lv_ldiv hx hb d hne (k H locs ls hP hD hS hl)
theorem g_lrem {E : EnvT} {K : KT} {cc : ByteArray} {own : String} {nL : Nat} {R : Room} {kc ks : Nat} {Wd : va_W} {lv : List (Nat × Value)} {pc : Nat} {st : List Value} {x y : Int64} (C : Ok E K cc own nL R) (d : decode cc pc = .ok (.lrem, 1)) (hne : ¬ y = 0) (k : G E K kc ks Wd lv (pc + 1) (.long (x - x / y * y) :: st)) : G E K kc ks Wd lv pc (.long y :: .long x :: st) := by
  obtain ⟨p, l, e, R1, s, m, args, below, meth, c, Q, A, nL1⟩ := E
  obtain ⟨hx, hb, hml, hown, hts, hN, hK, hA, rfl, rfl⟩ := C
  intro H locs ls hP hD hS hl
  exact lv_lrem hx hb d hne (k H locs ls hP hD hS hl)
theorem g_lshl {E : EnvT} {K : KT} {cc : ByteArray} {own : String} {nL : Nat} {R : Room} {kc ks : Nat} {Wd : va_W} {lv : List (Nat × Value)} {pc : Nat} {st : List Value} {x v : Int64} {y : Int32} (C : Ok E K cc own nL R) (d : decode cc pc = .ok (.lshl, 1)) (hv : x <<< (y.toInt64 &&& 63) = v) (k : G E K kc ks Wd lv (pc + 1) (.long v :: st)) : G E K kc ks Wd lv pc (.int y :: .long x :: st) := by
  obtain ⟨p, l, e, R1, s, m, args, below, meth, c, Q, A, nL1⟩ := E
  obtain ⟨hx, hb, hml, hown, hts, hN, hK, hA, rfl, rfl⟩ := C
  intro H locs ls hP hD hS hl
  exact lv_lshl hx hb d hv (k H locs ls hP hD hS hl)
theorem g_lshr {E : EnvT} {K : KT} {cc : ByteArray} {own : String} {nL : Nat} {R : Room} {kc ks : Nat} {Wd : va_W} {lv : List (Nat × Value)} {pc : Nat} {st : List Value} {x v : Int64} {y : Int32} (C : Ok E K cc own nL R) (d : decode cc pc = .ok (.lshr, 1)) (hv : x >>> (y.toInt64 &&& 63) = v) (k : G E K kc ks Wd lv (pc + 1) (.long v :: st)) : G E K kc ks Wd lv pc (.int y :: .long x :: st) := by
  obtain ⟨p, l, e, R1, s, m, args, below, meth, c, Q, A, nL1⟩ := E
  obtain ⟨hx, hb, hml, hown, hts, hN, hK, hA, rfl, rfl⟩ := C
  intro H locs ls hP hD hS hl
  exact lv_lshr hx hb d hv (k H locs ls hP hD hS hl)
theorem g_lushr {E : EnvT} {K : KT} {cc : ByteArray} {own : String} {nL : Nat} {R : Room} {kc ks : Nat} {Wd : va_W} {lv : List (Nat × Value)} {pc : Nat} {st : List Value} {x v : Int64} {y : Int32} (C : Ok E K cc own nL R) (d : decode cc pc = .ok (.lushr, 1)) (hv : (x.toUInt64 >>> (y.toInt64.toUInt64 &&& Int64.toUInt64 63)).toInt64 = v) (k : G E K kc ks Wd lv (pc + 1) (.long v :: st)) : G E K kc ks Wd lv pc (.int y :: .long x :: st) := by
  obtain ⟨p, l, e, R1, s, m, args, below, meth, c, Q, A, nL1⟩ := E
  obtain ⟨hx, hb, hml, hown, hts, hN, hK, hA, rfl, rfl⟩ := C
  intro H locs ls hP hD hS hl
  exact lv_lushr hx hb d hv (k H locs ls hP hD hS hl)
theorem g_i2l {E : EnvT} {K : KT} {cc : ByteArray} {own : String} {nL : Nat} {R : Room} {kc ks : Nat} {Wd : va_W} {lv : List (Nat × Value)} {pc : Nat} {st : List Value} {x : Int32} {v : Int64} (C : Ok E K cc own nL R) (d : decode cc pc = .ok (.i2l, 1)) (hv : x.toInt64 = v) (k : G E K kc ks Wd lv (pc + 1) (.long v :: st)) : G E K kc ks Wd lv pc (.int x :: st) := by
  obtain ⟨p, l, e, R1, s, m, args, below, meth, c, Q, A, nL1⟩ := E
  obtain ⟨hx, hb, hml, hown, hts, hN, hK, hA, rfl, rfl⟩ := C
  intro H locs ls hP hD hS hl
  exact lv_i2l hx hb d hv (k H locs ls hP hD hS hl)
theorem g_l2i {E : EnvT} {K : KT} {cc : ByteArray} {own : String} {nL : Nat} {R : Room} {kc ks : Nat} {Wd : va_W} {lv : List (Nat × Value)} {pc : Nat} {st : List Value} {x : Int64} {v : Int32} (C : Ok E K cc own nL R) (d : decode cc pc = .ok (.l2i, 1)) (hv : x.toInt32 = v) (k : G E K kc ks Wd lv (pc + 1) (.int v :: st)) : G E K kc ks Wd lv pc (.long x :: st) := by
  obtain ⟨p, l, e, R1, s, m, args, below, meth, c, Q, A, nL1⟩ := E
  obtain ⟨hx, hb, hml, hown, hts, hN, hK, hA, rfl, rfl⟩ := C
  intro H locs ls hP hD hS hl
  exact lv_l2i hx hb d hv (k H locs ls hP hD hS hl)
theorem g_goto {E : EnvT} {K : KT} {cc : ByteArray} {own : String} {nL : Nat} {R : Room} {kc ks : Nat} {Wd : va_W} {lv : List (Nat × Value)} {pc : Nat} {st : List Value} {off : Int} {tgt : Nat} (C : Ok E K cc own nL R) (d : decode cc pc = .ok (.goto off, 3)) (ht : (pc : Int) + off = (tgt : Int)) (k : G E K kc ks Wd lv tgt st) : G E K kc ks Wd lv pc st := by
  obtain ⟨p, l, e, R1, s, m, args, below, meth, c, Q, A, nL1⟩ := E
  obtain ⟨hx, hb, hml, hown, hts, hN, hK, hA, rfl, rfl⟩ := C
  intro H locs ls hP hD hS hl
  exact lv_goto hx hb d ht (k H locs ls hP hD hS hl)
theorem g_if_eq {E : EnvT} {K : KT} {cc : ByteArray} {own : String} {nL : Nat} {R : Room} {kc ks : Nat} {Wd : va_W} {lv : List (Nat × Value)} {pc : Nat} {st : List Value} {x : Int32} {off : Int} {tgt : Nat} (C : Ok E K cc own nL R) (d : decode cc pc = .ok (.ifCond .eq off, 3)) (ht : (pc : Int) + off = (tgt : Int)) (kt : x = 0 → G E K kc ks Wd lv tgt st) (kf : ¬ x = 0 → G E K kc ks Wd lv (pc + 3) st) : G E K kc ks Wd lv pc (.int x :: st) := by
  obtain ⟨p, l, e, R1, s, m, args, below, meth, c, Q, A, nL1⟩ := E
  obtain ⟨hx, hb, hml, hown, hts, hN, hK, hA, rfl, rfl⟩ := C
  intro H locs ls hP hD hS hl
  exact lv_if_eq hx hb d ht (fun q => kt q H locs ls hP hD hS hl) (fun q => kf q H locs ls hP hD hS hl)
theorem g_if_ne {E : EnvT} {K : KT} {cc : ByteArray} {own : String} {nL : Nat} {R : Room} {kc ks : Nat} {Wd : va_W} {lv : List (Nat × Value)} {pc : Nat} {st : List Value} {x : Int32} {off : Int} {tgt : Nat} (C : Ok E K cc own nL R) (d : decode cc pc = .ok (.ifCond .ne off, 3)) (ht : (pc : Int) + off = (tgt : Int)) (kt : ¬ x = 0 → G E K kc ks Wd lv tgt st) (kf : x = 0 → G E K kc ks Wd lv (pc + 3) st) : G E K kc ks Wd lv pc (.int x :: st) := by
  obtain ⟨p, l, e, R1, s, m, args, below, meth, c, Q, A, nL1⟩ := E
  obtain ⟨hx, hb, hml, hown, hts, hN, hK, hA, rfl, rfl⟩ := C
  intro H locs ls hP hD hS hl
  exact lv_if_ne hx hb d ht (fun q => kt q H locs ls hP hD hS hl) (fun q => kf q H locs ls hP hD hS hl)
theorem g_if_lt {E : EnvT} {K : KT} {cc : ByteArray} {own : String} {nL : Nat} {R : Room} {kc ks : Nat} {Wd : va_W} {lv : List (Nat × Value)} {pc : Nat} {st : List Value} {x : Int32} {off : Int} {tgt : Nat} (C : Ok E K cc own nL R) (d : decode cc pc = .ok (.ifCond .lt off, 3)) (ht : (pc : Int) + off = (tgt : Int)) (kt : x < 0 → G E K kc ks Wd lv tgt st) (kf : ¬ x < 0 → G E K kc ks Wd lv (pc + 3) st) : G E K kc ks Wd lv pc (.int x :: st) := by
  obtain ⟨p, l, e, R1, s, m, args, below, meth, c, Q, A, nL1⟩ := E
  obtain ⟨hx, hb, hml, hown, hts, hN, hK, hA, rfl, rfl⟩ := C
  intro H locs ls hP hD hS hl
  exact lv_if_lt hx hb d ht (fun q => kt q H locs ls hP hD hS hl) (fun q => kf q H locs ls hP hD hS hl)
theorem g_if_ge {E : EnvT} {K : KT} {cc : ByteArray} {own : String} {nL : Nat} {R : Room} {kc ks : Nat} {Wd : va_W} {lv : List (Nat × Value)} {pc : Nat} {st : List Value} {x : Int32} {off : Int} {tgt : Nat} (C : Ok E K cc own nL R) (d : decode cc pc = .ok (.ifCond .ge off, 3)) (ht : (pc : Int) + off = (tgt : Int)) (kt : 0 ≤ x → G E K kc ks Wd lv tgt st) (kf : ¬ 0 ≤ x → G E K kc ks Wd lv (pc + 3) st) : G E K kc ks Wd lv pc (.int x :: st) := by
  obtain ⟨p, l, e, R1, s, m, args, below, meth, c, Q, A, nL1⟩ := E
  obtain ⟨hx, hb, hml, hown, hts, hN, hK, hA, rfl, rfl⟩ := C
  intro H locs ls hP hD hS hl
  exact lv_if_ge hx hb d ht (fun q => kt q H locs ls hP hD hS hl) (fun q => kf q H locs ls hP hD hS hl)
theorem g_if_gt {E : EnvT} {K : KT} {cc : ByteArray} {own : String} {nL : Nat} {R : Room} {kc ks : Nat} {Wd : va_W} {lv : List (Nat × Value)} {pc : Nat} {st : List Value} {x : Int32} {off : Int} {tgt : Nat} (C : Ok E K cc own nL R) (d : decode cc pc = .ok (.ifCond .gt off, 3)) (ht : (pc : Int) + off = (tgt : Int)) (kt : 0 < x → G E K kc ks Wd lv tgt st) (kf : ¬ 0 < x → G E K kc ks Wd lv (pc + 3) st) : G E K kc ks Wd lv pc (.int x :: st) := by
  obtain ⟨p, l, e, R1, s, m, args, below, meth, c, Q, A, nL1⟩ := E
  obtain ⟨hx, hb, hml, hown, hts, hN, hK, hA, rfl, rfl⟩ := C
  intro H locs ls hP hD hS hl
  exact lv_if_gt hx hb d ht (fun q => kt q H locs ls hP hD hS hl) (fun q => kf q H locs ls hP hD hS hl)
theorem g_if_le {E : EnvT} {K : KT} {cc : ByteArray} {own : String} {nL : Nat} {R : Room} {kc ks : Nat} {Wd : va_W} {lv : List (Nat × Value)} {pc : Nat} {st : List Value} {x : Int32} {off : Int} {tgt : Nat} (C : Ok E K cc own nL R) (d : decode cc pc = .ok (.ifCond .le off, 3)) (ht : (pc : Int) + off = (tgt : Int)) (kt : x ≤ 0 → G E K kc ks Wd lv tgt st) (kf : ¬ x ≤ 0 → G E K kc ks Wd lv (pc + 3) st) : G E K kc ks Wd lv pc (.int x :: st) := by
  obtain ⟨p, l, e, R1, s, m, args, below, meth, c, Q, A, nL1⟩ := E
  obtain ⟨hx, hb, hml, hown, hts, hN, hK, hA, rfl, rfl⟩ := C
  intro H locs ls hP hD hS hl
  exact lv_if_le hx hb d ht (fun q => kt q H locs ls hP hD hS hl) (fun q => kf q H locs ls hP hD hS hl)
theorem g_icmp_eq {E : EnvT} {K : KT} {cc : ByteArray} {own : String} {nL : Nat} {R : Room} {kc ks : Nat} {Wd : va_W} {lv : List (Nat × Value)} {pc : Nat} {st : List Value} {x y : Int32} {off : Int} {tgt : Nat} (C : Ok E K cc own nL R) (d : decode cc pc = .ok (.if_icmp .eq off, 3)) (ht : (pc : Int) + off = (tgt : Int)) (kt : x = y → G E K kc ks Wd lv tgt st) (kf : ¬ x = y → G E K kc ks Wd lv (pc + 3) st) : G E K kc ks Wd lv pc (.int y :: .int x :: st) := by
  obtain ⟨p, l, e, R1, s, m, args, below, meth, c, Q, A, nL1⟩ := E
  obtain ⟨hx, hb, hml, hown, hts, hN, hK, hA, rfl, rfl⟩ := C
  intro H locs ls hP hD hS hl
  exact lv_icmp_eq hx hb d ht (fun q => kt q H locs ls hP hD hS hl) (fun q => kf q H locs ls hP hD hS hl)
theorem g_icmp_ne {E : EnvT} {K : KT} {cc : ByteArray} {own : String} {nL : Nat} {R : Room} {kc ks : Nat} {Wd : va_W} {lv : List (Nat × Value)} {pc : Nat} {st : List Value} {x y : Int32} {off : Int} {tgt : Nat} (C : Ok E K cc own nL R) (d : decode cc pc = .ok (.if_icmp .ne off, 3)) (ht : (pc : Int) + off = (tgt : Int)) (kt : ¬ x = y → G E K kc ks Wd lv tgt st) (kf : x = y → G E K kc ks Wd lv (pc + 3) st) : G E K kc ks Wd lv pc (.int y :: .int x :: st) := by
  obtain ⟨p, l, e, R1, s, m, args, below, meth, c, Q, A, nL1⟩ := E
  obtain ⟨hx, hb, hml, hown, hts, hN, hK, hA, rfl, rfl⟩ := C
  intro H locs ls hP hD hS hl
  exact lv_icmp_ne hx hb d ht (fun q => kt q H locs ls hP hD hS hl) (fun q => kf q H locs ls hP hD hS hl)
theorem g_icmp_lt {E : EnvT} {K : KT} {cc : ByteArray} {own : String} {nL : Nat} {R : Room} {kc ks : Nat} {Wd : va_W} {lv : List (Nat × Value)} {pc : Nat} {st : List Value} {x y : Int32} {off : Int} {tgt : Nat} (C : Ok E K cc own nL R) (d : decode cc pc = .ok (.if_icmp .lt off, 3)) (ht : (pc : Int) + off = (tgt : Int)) (kt : x < y → G E K kc ks Wd lv tgt st) (kf : ¬ x < y → G E K kc ks Wd lv (pc + 3) st) : G E K kc ks Wd lv pc (.int y :: .int x :: st) := by
  obtain ⟨p, l, e, R1, s, m, args, below, meth, c, Q, A, nL1⟩ := E
  obtain ⟨hx, hb, hml, hown, hts, hN, hK, hA, rfl, rfl⟩ := C
  intro H locs ls hP hD hS hl
  exact lv_icmp_lt hx hb d ht (fun q => kt q H locs ls hP hD hS hl) (fun q => kf q H locs ls hP hD hS hl)
theorem g_icmp_ge {E : EnvT} {K : KT} {cc : ByteArray} {own : String} {nL : Nat} {R : Room} {kc ks : Nat} {Wd : va_W} {lv : List (Nat × Value)} {pc : Nat} {st : List Value} {x y : Int32} {off : Int} {tgt : Nat} (C : Ok E K cc own nL R) (d : decode cc pc = .ok (.if_icmp .ge off, 3)) (ht : (pc : Int) + off = (tgt : Int)) (kt : y ≤ x → G E K kc ks Wd lv tgt st) (kf : ¬ y ≤ x → G E K kc ks Wd lv (pc + 3) st) : G E K kc ks Wd lv pc (.int y :: .int x :: st) := by
  obtain ⟨p, l, e, R1, s, m, args, below, meth, c, Q, A, nL1⟩ := E
  obtain ⟨hx, hb, hml, hown, hts, hN, hK, hA, rfl, rfl⟩ := C
  intro H locs ls hP hD hS hl
  exact lv_icmp_ge hx hb d ht (fun q => kt q H locs ls hP hD hS hl) (fun q => kf q H locs ls hP hD hS hl)
theorem g_icmp_gt {E : EnvT} {K : KT} {cc : ByteArray} {own : String} {nL : Nat} {R : Room} {kc ks : Nat} {Wd : va_W} {lv : List (Nat × Value)} {pc : Nat} {st : List Value} {x y : Int32} {off : Int} {tgt : Nat} (C : Ok E K cc own nL R) (d : decode cc pc = .ok (.if_icmp .gt off, 3)) (ht : (pc : Int) + off = (tgt : Int)) (kt : y < x → G E K kc ks Wd lv tgt st) (kf : ¬ y < x → G E K kc ks Wd lv (pc + 3) st) : G E K kc ks Wd lv pc (.int y :: .int x :: st) := by
  obtain ⟨p, l, e, R1, s, m, args, below, meth, c, Q, A, nL1⟩ := E
  obtain ⟨hx, hb, hml, hown, hts, hN, hK, hA, rfl, rfl⟩ := C
  intro H locs ls hP hD hS hl
  exact lv_icmp_gt hx hb d ht (fun q => kt q H locs ls hP hD hS hl) (fun q => kf q H locs ls hP hD hS hl)
theorem g_icmp_le {E : EnvT} {K : KT} {cc : ByteArray} {own : String} {nL : Nat} {R : Room} {kc ks : Nat} {Wd : va_W} {lv : List (Nat × Value)} {pc : Nat} {st : List Value} {x y : Int32} {off : Int} {tgt : Nat} (C : Ok E K cc own nL R) (d : decode cc pc = .ok (.if_icmp .le off, 3)) (ht : (pc : Int) + off = (tgt : Int)) (kt : x ≤ y → G E K kc ks Wd lv tgt st) (kf : ¬ x ≤ y → G E K kc ks Wd lv (pc + 3) st) : G E K kc ks Wd lv pc (.int y :: .int x :: st) := by
  obtain ⟨p, l, e, R1, s, m, args, below, meth, c, Q, A, nL1⟩ := E
  obtain ⟨hx, hb, hml, hown, hts, hN, hK, hA, rfl, rfl⟩ := C
  intro H locs ls hP hD hS hl
  exact lv_icmp_le hx hb d ht (fun q => kt q H locs ls hP hD hS hl) (fun q => kf q H locs ls hP hD hS hl)
theorem lg_eq (x y : Int64) : lg_cmp x y = 0 ↔ x = y := by
  unfold lg_cmp
  by_cases h : y < x
  · rw [if_pos h]
    exact ⟨fun q => absurd q (by decide), fun q => absurd (q ▸ h) (by rw [Int64.lt_iff_toInt_lt]; omega)⟩
  · rw [if_neg h]
    by_cases h2 : x = y
    · rw [if_pos h2]; exact ⟨fun _ => h2, fun _ => rfl⟩
    · rw [if_neg h2]; exact ⟨fun q => absurd q (by decide), fun q => absurd q h2⟩
theorem lg_lt (x y : Int64) : lg_cmp x y < 0 ↔ x < y := by
  unfold lg_cmp
  by_cases h : y < x
  · rw [if_pos h]
    exact ⟨fun q => absurd q (by decide), fun q => by rw [Int64.lt_iff_toInt_lt] at q h; omega⟩
  · rw [if_neg h]
    by_cases h2 : x = y
    · rw [if_pos h2]; exact ⟨fun q => absurd q (by decide), fun q => by rw [h2, Int64.lt_iff_toInt_lt] at q; omega⟩
    · rw [if_neg h2]
      refine ⟨fun _ => ?_, fun _ => by decide⟩
      rw [Int64.lt_iff_toInt_lt] at h ⊢
      have h3 : x.toInt ≠ y.toInt := fun q => h2 (Int64.toInt_inj.mp q)
      omega
theorem lg_gt (x y : Int64) : 0 < lg_cmp x y ↔ y < x := by
  unfold lg_cmp
  by_cases h : y < x
  · rw [if_pos h]; exact ⟨fun _ => h, fun _ => by decide⟩
  · rw [if_neg h]
    by_cases h2 : x = y
    · rw [if_pos h2]; exact ⟨fun q => absurd q (by decide), fun q => absurd q h⟩
    · rw [if_neg h2]; exact ⟨fun q => absurd q (by decide), fun q => absurd q h⟩
theorem lg_ge (x y : Int64) : 0 ≤ lg_cmp x y ↔ y ≤ x := by
  unfold lg_cmp
  by_cases h : y < x
  · rw [if_pos h]; exact ⟨fun _ => by rw [Int64.lt_iff_toInt_lt] at h; rw [Int64.le_iff_toInt_le]; omega, fun _ => by decide⟩
  · rw [if_neg h]
    by_cases h2 : x = y
    · rw [if_pos h2]; exact ⟨fun _ => by rw [h2, Int64.le_iff_toInt_le]; omega, fun _ => by decide⟩
    · rw [if_neg h2]
      refine ⟨fun q => absurd q (by decide), fun q => ?_⟩
      rw [Int64.lt_iff_toInt_lt] at h
      rw [Int64.le_iff_toInt_le] at q
      have h3 : x.toInt ≠ y.toInt := fun q => h2 (Int64.toInt_inj.mp q)
      omega
theorem lg_le (x y : Int64) : lg_cmp x y ≤ 0 ↔ x ≤ y := by
  unfold lg_cmp
  by_cases h : y < x
  · rw [if_pos h]; exact ⟨fun q => absurd q (by decide), fun q => by rw [Int64.lt_iff_toInt_lt] at h; rw [Int64.le_iff_toInt_le] at q; omega⟩
  · rw [if_neg h]
    by_cases h2 : x = y
    · rw [if_pos h2]; exact ⟨fun _ => by rw [h2, Int64.le_iff_toInt_le]; omega, fun _ => by decide⟩
    · rw [if_neg h2]
      refine ⟨fun _ => ?_, fun _ => by decide⟩
      rw [Int64.lt_iff_toInt_lt] at h
      rw [Int64.le_iff_toInt_le]
      omega
theorem g_lcmp_eq {E : EnvT} {K : KT} {cc : ByteArray} {own : String} {nL : Nat} {R : Room} {kc ks : Nat} {Wd : va_W} {lv : List (Nat × Value)} {pc : Nat} {st : List Value} {x y : Int64} {off : Int} {tgt : Nat} (C : Ok E K cc own nL R) (d : decode cc pc = .ok (.lcmp, 1)) (d2 : decode cc (pc + 1) = .ok (.ifCond .eq off, 3)) (ht : ((pc + 1 : Nat) : Int) + off = (tgt : Int)) (kt : x = y → G E K kc ks Wd lv tgt st) (kf : ¬ x = y → G E K kc ks Wd lv (pc + 1 + 3) st) : G E K kc ks Wd lv pc (.long y :: .long x :: st) := by
  obtain ⟨p, l, e, R1, s, m, args, below, meth, c, Q, A, nL1⟩ := E
  obtain ⟨hx, hb, hml, hown, hts, hN, hK, hA, rfl, rfl⟩ := C
  intro H locs ls hP hD hS hl
  exact W.lcmp hx hb d (lv_if_eq hx hb d2 ht (fun q => kt ((lg_eq x y).mp q) H locs ls hP hD hS hl) (fun q => kf (fun z => q ((lg_eq x y).mpr z)) H locs ls hP hD hS hl))
theorem g_lcmp_ne {E : EnvT} {K : KT} {cc : ByteArray} {own : String} {nL : Nat} {R : Room} {kc ks : Nat} {Wd : va_W} {lv : List (Nat × Value)} {pc : Nat} {st : List Value} {x y : Int64} {off : Int} {tgt : Nat} (C : Ok E K cc own nL R) (d : decode cc pc = .ok (.lcmp, 1)) (d2 : decode cc (pc + 1) = .ok (.ifCond .ne off, 3)) (ht : ((pc + 1 : Nat) : Int) + off = (tgt : Int)) (kt : ¬ x = y → G E K kc ks Wd lv tgt st) (kf : x = y → G E K kc ks Wd lv (pc + 1 + 3) st) : G E K kc ks Wd lv pc (.long y :: .long x :: st) := by
  obtain ⟨p, l, e, R1, s, m, args, below, meth, c, Q, A, nL1⟩ := E
  obtain ⟨hx, hb, hml, hown, hts, hN, hK, hA, rfl, rfl⟩ := C
  intro H locs ls hP hD hS hl
  exact W.lcmp hx hb d (lv_if_ne hx hb d2 ht (fun q => kt (fun z => q ((lg_eq x y).mpr z)) H locs ls hP hD hS hl) (fun q => kf ((lg_eq x y).mp q) H locs ls hP hD hS hl))
theorem g_lcmp_lt {E : EnvT} {K : KT} {cc : ByteArray} {own : String} {nL : Nat} {R : Room} {kc ks : Nat} {Wd : va_W} {lv : List (Nat × Value)} {pc : Nat} {st : List Value} {x y : Int64} {off : Int} {tgt : Nat} (C : Ok E K cc own nL R) (d : decode cc pc = .ok (.lcmp, 1)) (d2 : decode cc (pc + 1) = .ok (.ifCond .lt off, 3)) (ht : ((pc + 1 : Nat) : Int) + off = (tgt : Int)) (kt : x < y → G E K kc ks Wd lv tgt st) (kf : ¬ x < y → G E K kc ks Wd lv (pc + 1 + 3) st) : G E K kc ks Wd lv pc (.long y :: .long x :: st) := by
  obtain ⟨p, l, e, R1, s, m, args, below, meth, c, Q, A, nL1⟩ := E
  obtain ⟨hx, hb, hml, hown, hts, hN, hK, hA, rfl, rfl⟩ := C
  intro H locs ls hP hD hS hl
  exact W.lcmp hx hb d (lv_if_lt hx hb d2 ht (fun q => kt ((lg_lt x y).mp q) H locs ls hP hD hS hl) (fun q => kf (fun z => q ((lg_lt x y).mpr z)) H locs ls hP hD hS hl))
theorem g_lcmp_ge {E : EnvT} {K : KT} {cc : ByteArray} {own : String} {nL : Nat} {R : Room} {kc ks : Nat} {Wd : va_W} {lv : List (Nat × Value)} {pc : Nat} {st : List Value} {x y : Int64} {off : Int} {tgt : Nat} (C : Ok E K cc own nL R) (d : decode cc pc = .ok (.lcmp, 1)) (d2 : decode cc (pc + 1) = .ok (.ifCond .ge off, 3)) (ht : ((pc + 1 : Nat) : Int) + off = (tgt : Int)) (kt : y ≤ x → G E K kc ks Wd lv tgt st) (kf : ¬ y ≤ x → G E K kc ks Wd lv (pc + 1 + 3) st) : G E K kc ks Wd lv pc (.long y :: .long x :: st) := by
  obtain ⟨p, l, e, R1, s, m, args, below, meth, c, Q, A, nL1⟩ := E
  obtain ⟨hx, hb, hml, hown, hts, hN, hK, hA, rfl, rfl⟩ := C
  intro H locs ls hP hD hS hl
  exact W.lcmp hx hb d (lv_if_ge hx hb d2 ht (fun q => kt ((lg_ge x y).mp q) H locs ls hP hD hS hl) (fun q => kf (fun z => q ((lg_ge x y).mpr z)) H locs ls hP hD hS hl))
theorem g_lcmp_gt {E : EnvT} {K : KT} {cc : ByteArray} {own : String} {nL : Nat} {R : Room} {kc ks : Nat} {Wd : va_W} {lv : List (Nat × Value)} {pc : Nat} {st : List Value} {x y : Int64} {off : Int} {tgt : Nat} (C : Ok E K cc own nL R) (d : decode cc pc = .ok (.lcmp, 1)) (d2 : decode cc (pc + 1) = .ok (.ifCond .gt off, 3)) (ht : ((pc + 1 : Nat) : Int) + off = (tgt : Int)) (kt : y < x → G E K kc ks Wd lv tgt st) (kf : ¬ y < x → G E K kc ks Wd lv (pc + 1 + 3) st) : G E K kc ks Wd lv pc (.long y :: .long x :: st) := by
  obtain ⟨p, l, e, R1, s, m, args, below, meth, c, Q, A, nL1⟩ := E
  obtain ⟨hx, hb, hml, hown, hts, hN, hK, hA, rfl, rfl⟩ := C
  intro H locs ls hP hD hS hl
  exact W.lcmp hx hb d (lv_if_gt hx hb d2 ht (fun q => kt ((lg_gt x y).mp q) H locs ls hP hD hS hl) (fun q => kf (fun z => q ((lg_gt x y).mpr z)) H locs ls hP hD hS hl))
theorem g_lcmp_le {E : EnvT} {K : KT} {cc : ByteArray} {own : String} {nL : Nat} {R : Room} {kc ks : Nat} {Wd : va_W} {lv : List (Nat × Value)} {pc : Nat} {st : List Value} {x y : Int64} {off : Int} {tgt : Nat} (C : Ok E K cc own nL R) (d : decode cc pc = .ok (.lcmp, 1)) (d2 : decode cc (pc + 1) = .ok (.ifCond .le off, 3)) (ht : ((pc + 1 : Nat) : Int) + off = (tgt : Int)) (kt : x ≤ y → G E K kc ks Wd lv tgt st) (kf : ¬ x ≤ y → G E K kc ks Wd lv (pc + 1 + 3) st) : G E K kc ks Wd lv pc (.long y :: .long x :: st) := by
  obtain ⟨p, l, e, R1, s, m, args, below, meth, c, Q, A, nL1⟩ := E
  obtain ⟨hx, hb, hml, hown, hts, hN, hK, hA, rfl, rfl⟩ := C
  intro H locs ls hP hD hS hl
  exact W.lcmp hx hb d (lv_if_le hx hb d2 ht (fun q => kt ((lg_le x y).mp q) H locs ls hP hD hS hl) (fun q => kf (fun z => q ((lg_le x y).mpr z)) H locs ls hP hD hS hl))
def bz (b : Bool) : Int32 := bif b then 1 else 0
theorem bz_0 {b : Bool} : bz b = 0 ↔ b = false := by cases b <;> decide
theorem g_bz_eq {E : EnvT} {K : KT} {cc : ByteArray} {own : String} {nL : Nat} {R : Room} {kc ks : Nat} {Wd : va_W} {lv : List (Nat × Value)} {pc : Nat} {st : List Value} {b : Bool} {off : Int} {tgt : Nat} (C : Ok E K cc own nL R) (d : decode cc pc = .ok (.ifCond .eq off, 3)) (ht : (pc : Int) + off = (tgt : Int)) (kt : b = false → G E K kc ks Wd lv tgt st) (kf : b = true → G E K kc ks Wd lv (pc + 3) st) : G E K kc ks Wd lv pc (.int (bz b) :: st) := g_if_eq C d ht (fun q => kt (bz_0.mp q)) (fun q => kf (by cases b; exact absurd rfl q; rfl))
theorem g_bz_ne {E : EnvT} {K : KT} {cc : ByteArray} {own : String} {nL : Nat} {R : Room} {kc ks : Nat} {Wd : va_W} {lv : List (Nat × Value)} {pc : Nat} {st : List Value} {b : Bool} {off : Int} {tgt : Nat} (C : Ok E K cc own nL R) (d : decode cc pc = .ok (.ifCond .ne off, 3)) (ht : (pc : Int) + off = (tgt : Int)) (kt : b = true → G E K kc ks Wd lv tgt st) (kf : b = false → G E K kc ks Wd lv (pc + 3) st) : G E K kc ks Wd lv pc (.int (bz b) :: st) := g_if_ne C d ht (fun q => kt (by cases b; exact absurd rfl q; rfl)) (fun q => kf (bz_0.mp q))
theorem g_topi {E : EnvT} {K : KT} {kc ks : Nat} {Wd : va_W} {lv : LV} {pc : Nat} {st : List Value} {x : Int32} (k : ∀ y : Int32, y = x → G E K kc ks Wd lv pc (.int y :: st)) : G E K kc ks Wd lv pc (.int x :: st) := k x rfl
theorem g_topl {E : EnvT} {K : KT} {kc ks : Nat} {Wd : va_W} {lv : LV} {pc : Nat} {st : List Value} {x : Int64} (k : ∀ y : Int64, y = x → G E K kc ks Wd lv pc (.long y :: st)) : G E K kc ks Wd lv pc (.long x :: st) := k x rfl
theorem g_eqi {E : EnvT} {K : KT} {kc ks : Nat} {Wd : va_W} {lv : LV} {pc : Nat} {st : List Value} {x y : Int32} (h : x = y) (k : G E K kc ks Wd lv pc (.int y :: st)) : G E K kc ks Wd lv pc (.int x :: st) := h ▸ k
theorem g_eql {E : EnvT} {K : KT} {kc ks : Nat} {Wd : va_W} {lv : LV} {pc : Nat} {st : List Value} {x y : Int64} (h : x = y) (k : G E K kc ks Wd lv pc (.long y :: st)) : G E K kc ks Wd lv pc (.long x :: st) := h ▸ k
theorem g_eqw {E : EnvT} {K : KT} {kc ks : Nat} {Wd Wd2 : va_W} {lv : LV} {pc : Nat} {st : List Value} (h : Wd = Wd2) (k : G E K kc ks Wd2 lv pc st) : G E K kc ks Wd lv pc st := h ▸ k
theorem g_lv {E : EnvT} {K : KT} {kc ks : Nat} {Wd : va_W} {lv : LV} (lv2 : LV) {pc : Nat} {st : List Value} (h : ∀ q ∈ lv2, q ∈ lv) (k : G E K kc ks Wd lv2 pc st) : G E K kc ks Wd lv pc st := by
  obtain ⟨p, l, e, R, s, m, args, below, meth, c, Q, A, nL⟩ := E
  exact fun H locs ls hP hD hS hl => k H locs ls hP hD hS (lv_wk hl h)
theorem g_lvs {E : EnvT} {K : KT} {kc ks : Nat} {Wd : va_W} {lv lv2 : LV} {pc : Nat} {st : List Value} (is : List Nat) (h : lv_pick lv is = lv2) (k : G E K kc ks Wd lv2 pc st) : G E K kc ks Wd lv pc st := by
  obtain ⟨p, l, e, R, s, m, args, below, meth, c, Q, A, nL⟩ := E
  exact fun H locs ls hP hD hS hl => k H locs ls hP hD hS (lv_sub hl is h)
def FL (nest : Bool) (own : String) (index ci k : Nat) : Prop := ∃ (Cn : String) (T : u_T) (N : Nat), vwCl[ci]? = some (Cn, T, N) ∧ k < N ∧ (bif nest then Cond.fieldLinkNest own index (T k).1 (T k).2.1 (T k).2.2.1 RX1 ∈ lw_N else Cond.fieldLink own index (T k).1 (T k).2.1 (T k).2.2.1 ∈ lw_G) ∧ (∀ w ∈ u_ws Cn T N, w ∈ lw_G)
def FP (own : String) (index ci k : Nat) (ty : FieldType) : Prop := ∃ (Cn : String) (T : u_T) (N : Nat), vwCl[ci]? = some (Cn, T, N) ∧ k < N ∧ Cond.fieldLink own index (T k).1 (T k).2.1 (T k).2.2.1 ∈ lw_G ∧ (∀ w ∈ u_ws Cn T N, w ∈ lw_G) ∧ (∃ ty0 : Nat → FieldType, ∀ k, k < N → parseFieldDescriptor (T k).2.2.1 = some (ty0 k)) ∧ (∀ a, a < N → ∀ b, b < N → a ≠ b → (T a).2.1 ≠ (T b).2.1) ∧ (T k).2.2.2 = false ∧ parseFieldDescriptor (T k).2.2.1 = some ty
theorem g_get {E : EnvT} {K : KT} {cc : ByteArray} {own : String} {nL : Nat} {R : Room} {kc ks : Nat} {Wd : va_W} {lv : List (Nat × Value)} {pc : Nat} {st : List Value} {index ci j a : Nat} {fs : List Value} {v : Value} (C : Ok E K cc own nL R) (d : decode cc pc = .ok (.getfield index, 3)) (f : FL false own index ci j) (q0 : Nat) (he : Wd[q0]? = some (oB a ci fs)) (hv : fs[j]? = some v) (k : G E K kc ks Wd lv (pc + 3) (v :: st)) : G E K kc ks Wd lv pc (.ref a :: st) := by
  obtain ⟨p, l, e, R1, s, m, args, below, meth, c, Q, A, nL1⟩ := E
  obtain ⟨hx, hb, hml, hown, hts, hN, hK, hA, rfl, rfl⟩ := C
  intro H locs ls hP hD hS hl
  obtain ⟨Cn, T, N, h1, h2, h3, h4⟩ := f
  exact va_get hx hb hts h4 hown hK hP q0 he h1 j h2 (hts _ h3) (fun _ h => h) hv d (k H locs ls hP hD hS hl)
theorem g_getN {E : EnvT} {K : KT} {cc : ByteArray} {own : String} {nL : Nat} {R : Room} {kc ks : Nat} {Wd : va_W} {lv : List (Nat × Value)} {pc : Nat} {st : List Value} {index ci j a : Nat} {fs : List Value} {v : Value} (C : Ok E K cc own nL R) (d : decode cc pc = .ok (.getfield index, 3)) (f : FL true own index ci j) (q0 : Nat) (he : Wd[q0]? = some (oB a ci fs)) (hv : fs[j]? = some v) (k : G E K kc ks Wd lv (pc + 3) (v :: st)) : G E K kc ks Wd lv pc (.ref a :: st) := by
  obtain ⟨p, l, e, R1, s, m, args, below, meth, c, Q, A, nL1⟩ := E
  obtain ⟨hx, hb, hml, hown, hts, hN, hK, hA, rfl, rfl⟩ := C
  intro H locs ls hP hD hS hl
  obtain ⟨Cn, T, N, h1, h2, h3, h4⟩ := f
  exact va_getN (host := RX1) hx hb hts h4 hown hK hP q0 he h1 j h2 (va_Nw.use rfl (hN _ h3)) (fun _ h => h) hv d (k H locs ls hP hD hS hl)
theorem g_put {E : EnvT} {K : KT} {cc : ByteArray} {own : String} {nL : Nat} {R : Room} {kc ks : Nat} {Wd : va_W} {lv : List (Nat × Value)} {pc : Nat} {st : List Value} {index ci j a : Nat} {ty : FieldType} {fs : List Value} {v : Value} {Wd2 : va_W} (C : Ok E K cc own nL R) (d : decode cc pc = .ok (.putfield index, 3)) (f : FP own index ci j ty) (q0 : Nat) (he : Wd[q0]? = some (oB a ci fs)) (hn : narrow ty v = v) (hfit : fits ty v = true) (hl2 : j < fs.length) (hw : Wd.set q0 (oB a ci (fs.set j v)) = Wd2) (k : G E K kc ks Wd2 lv (pc + 3) st) : G E K kc ks Wd lv pc (v :: .ref a :: st) := by
  obtain ⟨p, l, e, R1, s, m, args, below, meth, c, Q, A, nL1⟩ := E
  obtain ⟨hx, hb, hml, hown, hts, hN, hK, hA, rfl, rfl⟩ := C
  intro H locs ls hP hD hS hl
  obtain ⟨Cn, T, N, h1, h2, h3, h4, ⟨ty0, h5⟩, h6, h7, h8⟩ := f
  subst hw
  exact va_put hx hb hts h4 ty0 h5 h6 hown hK hP hD hS q0 he h1 j h2 (hts _ h3) (fun _ h => h) h7 h8 hn hfit hl2 d (fun H1 locs1 hP1 hD1 hS1 => k H1 locs1 ls hP1 hD1 hS1 hl)
theorem g_iald {E : EnvT} {K : KT} {cc : ByteArray} {own : String} {nL : Nat} {R : Room} {kc ks : Nat} {Wd : va_W} {lv : List (Nat × Value)} {pc : Nat} {st : List Value} {a n : Nat} {f : Nat → Int32} {i : Int32} (C : Ok E K cc own nL R) (d : decode cc pc = .ok (.iaload, 1)) (q0 : Nat) (he : Wd[q0]? = some (aI K a n f)) (hin : vp_in i n) (k : G E K kc ks Wd lv (pc + 1) (.int (f i.toNatClampNeg) :: st)) : G E K kc ks Wd lv pc (.int i :: .ref a :: st) := by
  obtain ⟨p, l, e, R1, s, m, args, below, meth, c, Q, A, nL1⟩ := E
  obtain ⟨hx, hb, hml, hown, hts, hN, hK, hA, rfl, rfl⟩ := C
  intro H locs ls hP hD hS hl
  exact va_iald hx hb hK hP q0 0 he rfl hin d (k H locs ls hP hD hS hl)
theorem g_lald {E : EnvT} {K : KT} {cc : ByteArray} {own : String} {nL : Nat} {R : Room} {kc ks : Nat} {Wd : va_W} {lv : List (Nat × Value)} {pc : Nat} {st : List Value} {a n : Nat} {f : Nat → Int64} {i : Int32} (C : Ok E K cc own nL R) (d : decode cc pc = .ok (.laload, 1)) (q0 : Nat) (he : Wd[q0]? = some (aJ K a n f)) (hin : vp_in i n) (k : G E K kc ks Wd lv (pc + 1) (.long (f i.toNatClampNeg) :: st)) : G E K kc ks Wd lv pc (.int i :: .ref a :: st) := by
  obtain ⟨p, l, e, R1, s, m, args, below, meth, c, Q, A, nL1⟩ := E
  obtain ⟨hx, hb, hml, hown, hts, hN, hK, hA, rfl, rfl⟩ := C
  intro H locs ls hP hD hS hl
  exact va_lald hx hb hK hP q0 1 he rfl hin d (k H locs ls hP hD hS hl)
theorem g_aald {E : EnvT} {K : KT} {cc : ByteArray} {own : String} {nL : Nat} {R : Room} {kc ks : Nat} {Wd : va_W} {lv : List (Nat × Value)} {pc : Nat} {st : List Value} {a n b : Nat} {f : Nat → Option Nat} {i : Int32} (C : Ok E K cc own nL R) (d : decode cc pc = .ok (.aaload, 1)) (q0 : Nat) (he : Wd[q0]? = some (aO K a n f)) (hin : vp_in i n) (hb2 : f i.toNatClampNeg = some b) (k : G E K kc ks Wd lv (pc + 1) (.ref b :: st)) : G E K kc ks Wd lv pc (.int i :: .ref a :: st) := by
  obtain ⟨p, l, e, R1, s, m, args, below, meth, c, Q, A, nL1⟩ := E
  obtain ⟨hx, hb, hml, hown, hts, hN, hK, hA, rfl, rfl⟩ := C
  intro H locs ls hP hD hS hl
  exact va_aldq hx hb hK hP q0 2 he rfl hin d (by rw [hb2]; exact k H locs ls hP hD hS hl)
theorem g_iast {E : EnvT} {K : KT} {cc : ByteArray} {own : String} {nL : Nat} {R : Room} {kc ks : Nat} {Wd : va_W} {lv : List (Nat × Value)} {pc : Nat} {st : List Value} {a n : Nat} {f : Nat → Int32} {i : Int32} {x : Int32} {Wd2 : va_W} (C : Ok E K cc own nL R) (d : decode cc pc = .ok (.iastore, 1)) (q0 : Nat) (he : Wd[q0]? = some (aI K a n f)) (hin : vp_in i n) (hw : Wd.set q0 (aI K a n (upd f i.toNatClampNeg x)) = Wd2) (k : G E K kc ks Wd2 lv (pc + 1) st) : G E K kc ks Wd lv pc (.int x :: .int i :: .ref a :: st) := by
  obtain ⟨p, l, e, R1, s, m, args, below, meth, c, Q, A, nL1⟩ := E
  obtain ⟨hx, hb, hml, hown, hts, hN, hK, hA, rfl, rfl⟩ := C
  intro H locs ls hP hD hS hl
  subst hw
  exact va_iast hx hb hK hP hD hS q0 0 he rfl hin d (fun H1 locs1 hP1 hD1 hS1 => k H1 locs1 ls hP1 hD1 hS1 hl)
theorem g_last {E : EnvT} {K : KT} {cc : ByteArray} {own : String} {nL : Nat} {R : Room} {kc ks : Nat} {Wd : va_W} {lv : List (Nat × Value)} {pc : Nat} {st : List Value} {a n : Nat} {f : Nat → Int64} {i : Int32} {x : Int64} {Wd2 : va_W} (C : Ok E K cc own nL R) (d : decode cc pc = .ok (.lastore, 1)) (q0 : Nat) (he : Wd[q0]? = some (aJ K a n f)) (hin : vp_in i n) (hw : Wd.set q0 (aJ K a n (vp_updL f i.toNatClampNeg x)) = Wd2) (k : G E K kc ks Wd2 lv (pc + 1) st) : G E K kc ks Wd lv pc (.long x :: .int i :: .ref a :: st) := by
  obtain ⟨p, l, e, R1, s, m, args, below, meth, c, Q, A, nL1⟩ := E
  obtain ⟨hx, hb, hml, hown, hts, hN, hK, hA, rfl, rfl⟩ := C
  intro H locs ls hP hD hS hl
  subst hw
  exact va_last hx hb hK hP hD hS q0 1 he rfl hin d (fun H1 locs1 hP1 hD1 hS1 => k H1 locs1 ls hP1 hD1 hS1 hl)
theorem g_mmax {E : EnvT} {K : KT} {cc : ByteArray} {own : String} {nL : Nat} {R : Room} {kc ks : Nat} {Wd : va_W} {lv : List (Nat × Value)} {pc : Nat} {st : List Value} {index : Nat} {x y : Int32} (C : Ok E K cc own nL R) (d : decode cc pc = .ok (.invokestatic index, 3)) (h1 : Cond.methodLink own index Lib.Math.max.name ∈ lw_G) (h2 : Cond.static Lib.Math.max.name ∈ lw_G) (h3 : Cond.initialized "java/lang/Math" ∈ lw_G) (h4 : Cond.code Lib.Math.max.name Lib.Math.max.code 2 (some .int) ∈ lw_G) (hf : 1 ≤ R.frames) (hlo : (st.map fun v => v.category).sum + 13 ≤ R.locals) (hc : kc ≤ R.cells) (hs : ks ≤ R.slots) (k : G E K kc ks Wd lv (pc + 3) (.int (if x < y then y else x) :: st)) : G E K kc ks Wd lv pc (.int y :: .int x :: st) := by
  obtain ⟨p, l, e, R1, s, m, args, below, meth, c, Q, A, nL1⟩ := E
  obtain ⟨hx, hb, hml, hown, hts, hN, hK, hA, rfl, rfl⟩ := C
  intro H locs ls hP hD hS hl
  exact va_mmax hx hb (hml.trans hl.1.symm) hown (hts _ h1) (hts _ h2) (hts _ h3) (hts _ h4) hf hlo hc hs d (k H locs ls hP hD hS hl)
theorem g_mmaxL {E : EnvT} {K : KT} {cc : ByteArray} {own : String} {nL : Nat} {R : Room} {kc ks : Nat} {Wd : va_W} {lv : List (Nat × Value)} {pc : Nat} {st : List Value} {index : Nat} {x y : Int64} (C : Ok E K cc own nL R) (d : decode cc pc = .ok (.invokestatic index, 3)) (h1 : Cond.methodLink own index Lib.MathLoose.max_long.x ∈ lw_G) (h2 : Cond.static Lib.MathLoose.max_long.x ∈ lw_G) (h3 : Cond.initialized "java/lang/Math" ∈ lw_G) (h4 : Cond.code Lib.MathLoose.max_long.x Lib.MathLoose.max_long.code 4 (some .long) ∈ lw_G) (hf : 1 ≤ R.frames) (hlo : (st.map fun v => v.category).sum + 15 ≤ R.locals) (hc : kc ≤ R.cells) (hs : ks ≤ R.slots) (k : G E K kc ks Wd lv (pc + 3) (.long (if y < x then x else y) :: st)) : G E K kc ks Wd lv pc (.long y :: .long x :: st) := by
  obtain ⟨p, l, e, R1, s, m, args, below, meth, c, Q, A, nL1⟩ := E
  obtain ⟨hx, hb, hml, hown, hts, hN, hK, hA, rfl, rfl⟩ := C
  intro H locs ls hP hD hS hl
  exact va_mmax_long hx hb (hml.trans hl.1.symm) hown (hts _ h1) (hts _ h2) (hts _ h3) (hts _ h4) hf hlo hc hs d (k H locs ls hP hD hS hl)
theorem g_mminL {E : EnvT} {K : KT} {cc : ByteArray} {own : String} {nL : Nat} {R : Room} {kc ks : Nat} {Wd : va_W} {lv : List (Nat × Value)} {pc : Nat} {st : List Value} {index : Nat} {x y : Int64} (C : Ok E K cc own nL R) (d : decode cc pc = .ok (.invokestatic index, 3)) (h1 : Cond.methodLink own index Lib.MathLoose.min_long.x ∈ lw_G) (h2 : Cond.static Lib.MathLoose.min_long.x ∈ lw_G) (h3 : Cond.initialized "java/lang/Math" ∈ lw_G) (h4 : Cond.code Lib.MathLoose.min_long.x Lib.MathLoose.min_long.code 4 (some .long) ∈ lw_G) (hf : 1 ≤ R.frames) (hlo : (st.map fun v => v.category).sum + 15 ≤ R.locals) (hc : kc ≤ R.cells) (hs : ks ≤ R.slots) (k : G E K kc ks Wd lv (pc + 3) (.long (if y < x then y else x) :: st)) : G E K kc ks Wd lv pc (.long y :: .long x :: st) := by
  obtain ⟨p, l, e, R1, s, m, args, below, meth, c, Q, A, nL1⟩ := E
  obtain ⟨hx, hb, hml, hown, hts, hN, hK, hA, rfl, rfl⟩ := C
  intro H locs ls hP hD hS hl
  exact va_mmin_long hx hb (hml.trans hl.1.symm) hown (hts _ h1) (hts _ h2) (hts _ h3) (hts _ h4) hf hlo hc hs d (k H locs ls hP hD hS hl)
theorem g_mabsL {E : EnvT} {K : KT} {cc : ByteArray} {own : String} {nL : Nat} {R : Room} {kc ks : Nat} {Wd : va_W} {lv : List (Nat × Value)} {pc : Nat} {st : List Value} {index : Nat} {x : Int64} (C : Ok E K cc own nL R) (d : decode cc pc = .ok (.invokestatic index, 3)) (h1 : Cond.methodLink own index Lib.MathLoose.abs_long.x ∈ lw_G) (h2 : Cond.static Lib.MathLoose.abs_long.x ∈ lw_G) (h3 : Cond.initialized "java/lang/Math" ∈ lw_G) (h4 : Cond.code Lib.MathLoose.abs_long.x Lib.MathLoose.abs_long.code 2 (some .long) ∈ lw_G) (hf : 1 ≤ R.frames) (hlo : (st.map fun v => v.category).sum + 13 ≤ R.locals) (hc : kc ≤ R.cells) (hs : ks ≤ R.slots) (k : G E K kc ks Wd lv (pc + 3) (.long (if 0 < x then x else -x) :: st)) : G E K kc ks Wd lv pc (.long x :: st) := by
  obtain ⟨p, l, e, R1, s, m, args, below, meth, c, Q, A, nL1⟩ := E
  obtain ⟨hx, hb, hml, hown, hts, hN, hK, hA, rfl, rfl⟩ := C
  intro H locs ls hP hD hS hl
  exact va_mabs_long hx hb (hml.trans hl.1.symm) hown (hts _ h1) (hts _ h2) (hts _ h3) (hts _ h4) hf hlo hc hs d (k H locs ls hP hD hS hl)
/-! contracts: a method's answer and its world behind it -/
def ConP (K : KT) (Wd : va_W) (av : List Value) (sz : Nat) : Array Value → State → Prop := va_Pc av (fun U => U.heap.size = sz ∧ va_P K.1 vwCl Wd U.heap ∧ NW U ∧ va_K K.1 vwCl (tysK K) U ∧ va_D (fun _ => True) Wd)
def ConQ (K : KT) (Wd : va_W) {S : Type} (W2 : S → va_W) (rv : Option Value) (sz : Nat) : Array Value → State → Outcome → State → Prop := fun _ st oc t => (oc = .returned rv ∧ ∃ u : S, va_P K.1 vwCl (W2 u) t.heap ∧ va_D (va_A Wd sz) (W2 u)) ∧ va_F (va_A Wd sz) st t
abbrev rmF (fr lo : Nat) : Room := { frames := fr, cells := 0, slots := 0, locals := lo }
def Con (l : Launch) (y : MethodName) (cc : ByteArray) (maxL : Nat) (ret : Option FieldType) (fr lo : Nat) (K : KT) (Wd : va_W) {S : Type} (W2 : S → va_W) (av : List Value) (rv : Option Value) : Prop := ∀ sz : Nat, Met l y (Cond.code y cc maxL ret :: lw_G) (rmF fr lo) (ConP K Wd av sz) (ConQ K Wd W2 rv sz) 0 0 (va_A Wd sz)
theorem conP_blind (K : KT) (Wd : va_W) (av : List Value) (sz : Nat) : FrameBlind (ConP K Wd av sz) := fun a U g mk q => by
  obtain ⟨q0, q1, qP, qN, qK, qD⟩ := q
  exact ⟨q0, q1, qP, NW.same (u := U) rfl qN, va_K.moved (u := U) (U := U.calling g mk a) (Vm.Alike.refl U.vm) qK, qD⟩
def RetI (E : EnvT) (K : KT) (cc : ByteArray) {S : Type} (W2 : S → va_W) (r : Int32) : Prop := ∀ (pc : Nat) (lv : LV) (x : Int32) (Wx : va_W) (u : S), decode cc pc = .ok (.ireturn, 1) → x = r → Wx = W2 u → G E K 0 0 Wx lv pc [.int x]
def RetL (E : EnvT) (K : KT) (cc : ByteArray) {S : Type} (W2 : S → va_W) (r : Int64) : Prop := ∀ (pc : Nat) (lv : LV) (x : Int64) (Wx : va_W) (u : S), decode cc pc = .ok (.lreturn, 1) → x = r → Wx = W2 u → G E K 0 0 Wx lv pc [.long x]
def RetV (E : EnvT) (K : KT) (cc : ByteArray) {S : Type} (W2 : S → va_W) : Prop := ∀ (pc : Nat) (lv : LV) (Wx : va_W) (u : S), decode cc pc = .ok (.return_, 1) → Wx = W2 u → G E K 0 0 Wx lv pc []
theorem conI {y : MethodName} {cc : ByteArray} {maxL : Nat} {fr lo : Nat} {K : KT} {Wd : va_W} {S : Type} {W2 : S → va_W} {av : List Value} {r : Int32} (hy : plainName y.cls = true) (hlen : (lg_sl av).length ≤ maxL) (body : ∀ E : EnvT, Ok E K cc y.cls maxL (rmF fr lo) → RetI E K cc W2 r → G E K 0 0 Wd (lv_args 0 av) 0 []) : ∀ l : Launch, Con l y cc maxL (some .int) fr lo K Wd W2 av (some (.int r)) := by
  intro l sz
  refine Met.ofW (cc := cc) (maxL := maxL) (ret := (some .int)) hy rfl ?_
  intro p e s m args below meth c s₁ B hml hv
  obtain ⟨rfl, hsz, hP, hN, hK, hD0⟩ := hv
  have hts := atoms_spec (ws := Cond.code y cc maxL (some .int) :: lw_G) B.pre
  have hown : s.vm.findClass y.cls = some m.cls := findClass_of_methodNamed B.named
  have hlocks := B.notSynchronized
  have hx := B.exec
  have hb := B.bytes
  have hr := B.returns
  subst hsz
  have hl := lv_entry av (n := maxL) hlen
  rw [lg_entry_eq]
  refine body (p, l, e, rmF fr lo, s, m, av.toArray, below, meth, c, _, va_A Wd s.heap.size, maxL) ⟨hx, hb, hml, hown, fun w h => hts w (List.mem_cons_of_mem _ h), hN, hK, fun q h => Or.inr h, rfl, rfl⟩ ?_ s.heap [] _ hP hD0.self va_S.rf hl
  intro pc lv x Wx u d hx2 hW H locs ls hP2 hD2 hS2 hl2
  subst hx2 hW
  exact W.iret hx hb hr (fun t ht hW => ⟨⟨rfl, u, by rw [ht]; exact hP2, hD2⟩, hS2.F ht⟩) hS2.2.2 d
theorem conZ {y : MethodName} {cc : ByteArray} {maxL : Nat} {fr lo : Nat} {K : KT} {Wd : va_W} {S : Type} {W2 : S → va_W} {av : List Value} {b : Bool} (hy : plainName y.cls = true) (hlen : (lg_sl av).length ≤ maxL) (body : ∀ E : EnvT, Ok E K cc y.cls maxL (rmF fr lo) → RetI E K cc W2 (bz b) → G E K 0 0 Wd (lv_args 0 av) 0 []) : ∀ l : Launch, Con l y cc maxL (some .boolean) fr lo K Wd W2 av (some (.int (bz b))) := by
  intro l sz
  refine Met.ofW (cc := cc) (maxL := maxL) (ret := (some .boolean)) hy rfl ?_
  intro p e s m args below meth c s₁ B hml hv
  obtain ⟨rfl, hsz, hP, hN, hK, hD0⟩ := hv
  have hts := atoms_spec (ws := Cond.code y cc maxL (some .boolean) :: lw_G) B.pre
  have hown : s.vm.findClass y.cls = some m.cls := findClass_of_methodNamed B.named
  have hlocks := B.notSynchronized
  have hx := B.exec
  have hb := B.bytes
  have hr := B.returns
  subst hsz
  have hl := lv_entry av (n := maxL) hlen
  rw [lg_entry_eq]
  refine body (p, l, e, rmF fr lo, s, m, av.toArray, below, meth, c, _, va_A Wd s.heap.size, maxL) ⟨hx, hb, hml, hown, fun w h => hts w (List.mem_cons_of_mem _ h), hN, hK, fun q h => Or.inr h, rfl, rfl⟩ ?_ s.heap [] _ hP hD0.self va_S.rf hl
  intro pc lv x Wx u d hx2 hW H locs ls hP2 hD2 hS2 hl2
  subst hx2 hW
  exact W.zret hx hb hr (by cases b <;> rfl) (fun t ht hW => ⟨⟨rfl, u, by rw [ht]; exact hP2, hD2⟩, hS2.F ht⟩) hS2.2.2 d
theorem conL {y : MethodName} {cc : ByteArray} {maxL : Nat} {fr lo : Nat} {K : KT} {Wd : va_W} {S : Type} {W2 : S → va_W} {av : List Value} {r : Int64} (hy : plainName y.cls = true) (hlen : (lg_sl av).length ≤ maxL) (body : ∀ E : EnvT, Ok E K cc y.cls maxL (rmF fr lo) → RetL E K cc W2 r → G E K 0 0 Wd (lv_args 0 av) 0 []) : ∀ l : Launch, Con l y cc maxL (some .long) fr lo K Wd W2 av (some (.long r)) := by
  intro l sz
  refine Met.ofW (cc := cc) (maxL := maxL) (ret := (some .long)) hy rfl ?_
  intro p e s m args below meth c s₁ B hml hv
  obtain ⟨rfl, hsz, hP, hN, hK, hD0⟩ := hv
  have hts := atoms_spec (ws := Cond.code y cc maxL (some .long) :: lw_G) B.pre
  have hown : s.vm.findClass y.cls = some m.cls := findClass_of_methodNamed B.named
  have hlocks := B.notSynchronized
  have hx := B.exec
  have hb := B.bytes
  have hr := B.returns
  subst hsz
  have hl := lv_entry av (n := maxL) hlen
  rw [lg_entry_eq]
  refine body (p, l, e, rmF fr lo, s, m, av.toArray, below, meth, c, _, va_A Wd s.heap.size, maxL) ⟨hx, hb, hml, hown, fun w h => hts w (List.mem_cons_of_mem _ h), hN, hK, fun q h => Or.inr h, rfl, rfl⟩ ?_ s.heap [] _ hP hD0.self va_S.rf hl
  intro pc lv x Wx u d hx2 hW H locs ls hP2 hD2 hS2 hl2
  subst hx2 hW
  exact W.lret hx hb hr (fun t ht hW => ⟨⟨rfl, u, by rw [ht]; exact hP2, hD2⟩, hS2.F ht⟩) hS2.2.2 d
theorem conV {y : MethodName} {cc : ByteArray} {maxL : Nat} {fr lo : Nat} {K : KT} {Wd : va_W} {S : Type} {W2 : S → va_W} {av : List Value}  (hy : plainName y.cls = true) (hlen : (lg_sl av).length ≤ maxL) (body : ∀ E : EnvT, Ok E K cc y.cls maxL (rmF fr lo) → RetV E K cc W2 → G E K 0 0 Wd (lv_args 0 av) 0 []) : ∀ l : Launch, Con l y cc maxL none fr lo K Wd W2 av none := by
  intro l sz
  refine Met.ofW (cc := cc) (maxL := maxL) (ret := none) hy rfl ?_
  intro p e s m args below meth c s₁ B hml hv
  obtain ⟨rfl, hsz, hP, hN, hK, hD0⟩ := hv
  have hts := atoms_spec (ws := Cond.code y cc maxL none :: lw_G) B.pre
  have hown : s.vm.findClass y.cls = some m.cls := findClass_of_methodNamed B.named
  have hlocks := B.notSynchronized
  have hx := B.exec
  have hb := B.bytes
  have hr := B.returns
  subst hsz
  have hl := lv_entry av (n := maxL) hlen
  rw [lg_entry_eq]
  refine body (p, l, e, rmF fr lo, s, m, av.toArray, below, meth, c, _, va_A Wd s.heap.size, maxL) ⟨hx, hb, hml, hown, fun w h => hts w (List.mem_cons_of_mem _ h), hN, hK, fun q h => Or.inr h, rfl, rfl⟩ ?_ s.heap [] _ hP hD0.self va_S.rf hl
  intro pc lv Wx u d hW H locs ls hP2 hD2 hS2 hl2
  subst hW
  exact W.vret hx hb hr (fun t ht hW => ⟨⟨rfl, u, by rw [ht]; exact hP2, hD2⟩, hS2.F ht⟩) hS2.2.2 d
theorem va_callG {p : Program} {l : Launch} {e : Env} {R : Room} {s : State} {m : MethodId} {args : Array Value} {below : List Frame} {meth : Method} {c : Code} {H : Heap} {locs : List Loc} {kc ks : Nat} {Q : State → Prop} {pc : Nat} {ls : Array Slot} {st0 rest : List Value} {K : KT} {Wd : va_W} {S : Type} {W2 : S → va_W} {rv : Option Value} {A0 : Nat → Prop} {a : Array Value}
    (hr : va_Run p l e R s m args below meth c H locs kc ks 0 0 (F0 m pc ls st0) rest (ConQ K Wd W2 rv H.size a) (va_A Wd H.size)) (hS : va_S A0 s.heap H locs) (hA : ∀ q, va_A Wd H.size q → A0 q)
    (kk : ∀ (u : S) (H1 : Heap) (locs1 : List Loc), va_P K.1 vwCl (W2 u) H1 → va_D A0 (W2 u) → va_S A0 s.heap H1 locs1 → W p l e R s m args below meth c H1 locs1 kc ks Q (F0 m (pc + 3) ls (rv.toList ++ rest))) : W p l e R s m args below meth c H locs kc ks Q (F0 m pc ls st0) := by
  intro T hT X
  obtain ⟨v, st₀, t, T2, L, h0, X2, hL, e1, e2, ⟨⟨hv, u, hP1, hD1⟩, hz, hk⟩, st⟩ := hr T hT X
  cases hv
  rw [h0] at hz hk
  obtain ⟨t2, a1, b1⟩ := kk u T2.heap (locs ++ L) (by rw [e1]; exact hP1) (hD1.weaken (fun _ q _ h => hA q.1 h))
    ⟨Nat.le_trans hS.1 (by rw [e1]; exact hz), fun q h1 h2 => by rw [e1, hk q (Nat.lt_of_lt_of_le h1 hS.1) (fun z => h2 (hA q z))]; exact hS.2.1 q h1 h2, fun q hq => by
      rcases List.mem_append.mp hq with h | h
      · exact hS.2.2 q h
      · exact hA _ (hL q h)⟩ T2 rfl X2
  exact ⟨t2, st t2 a1, b1⟩
theorem va_freeW {A0 : Nat → Prop} {Wd : va_W} {H0 H : Heap} {locs : List Loc} (hD : va_D A0 Wd) (hS : va_S A0 H0 H locs) (hA : ∀ q, H0.size ≤ q → A0 q) : ∀ q, va_A Wd H.size q → A0 q := by
  intro q h
  rcases h with ⟨k, e, h⟩ | h
  · exact hD.2 k (q, e) h
  · exact hA q (Nat.le_trans hS.1 h)
theorem g_callS {E : EnvT} {K : KT} {cc : ByteArray} {own : String} {nL : Nat} {R : Room} {kc ks : Nat} {Wd : va_W} {lv : List (Nat × Value)} {pc : Nat} {st : List Value} {y : MethodName} {cc2 : ByteArray} {maxL : Nat} {ret : Option FieldType} {n fr lo : Nat} {av : List Value} {rv : Option Value} {rest : List Value} {index : Nat} {S : Type} {W2 : S → va_W} (C : Ok E K cc own nL R) (d : decode cc pc = .ok (.invokestatic index, 3)) (L : Ln own index y) (M : MfS y cc2 maxL ret n) (hM : ∀ l, Con l y cc2 maxL ret fr lo K Wd W2 av rv) (hn : av.length = n) (hst : st = av.reverse ++ rest) (hcat : (rest.map fun v => v.category).sum ≤ 8) (hR : fr + 1 ≤ R.frames ∧ 8 + (maxL + 11) + lo ≤ R.locals) (hc : kc ≤ R.cells ∧ ks ≤ R.slots) (k : ∀ u : S, G E K kc ks (W2 u) lv (pc + 3) (rv.toList ++ rest)) : G E K kc ks Wd lv pc st := by
  obtain ⟨p, l, e, R1, s, m, args, below, meth, c, Q, A, nL1⟩ := E
  obtain ⟨hx, hb, hml, hown, hts, hN, hK, hA, rfl, rfl⟩ := C
  intro H locs ls hP hD hS hl
  subst hst
  have hF := va_freeW hD hS hA
  obtain ⟨m1, m2, m3, m4⟩ := M
  exact va_callG (va_runS ⟨hx, hb, hml, hown, hts⟩ (hM l H.size) (va_cwS n hts (lw_gi (fun w hw => by
    rcases List.mem_append.mp hw with h | h
    · rcases List.mem_cons.mp h with h | h
      · rw [h]; exact L
      · rcases List.mem_cons.mp h with h | h
        · rw [h]; exact m3
        · rw [List.mem_singleton.mp h]; exact m2
    · rcases List.mem_cons.mp h with h | h
      · rw [h]; exact m1
      · exact h)) rfl rfl rfl m4 hR) ⟨conP_blind _ _ _ _, fun U hU hW => ⟨rfl, by rw [hU], by rw [hU]; exact hP, NW.warm hW hN, va_K.moved hW.alike hK, hD.weaken (fun _ _ _ _ => trivial)⟩⟩ rfl hn hl.1 rfl (lv_room hcat) d hc) hS hF (fun u H1 locs1 hP1 hD1 hS1 => k u H1 locs1 ls hP1 hD1 hS1 hl)
theorem g_callSN {E : EnvT} {K : KT} {cc : ByteArray} {own : String} {nL : Nat} {R : Room} {kc ks : Nat} {Wd : va_W} {lv : List (Nat × Value)} {pc : Nat} {st : List Value} {y : MethodName} {cc2 : ByteArray} {maxL : Nat} {ret : Option FieldType} {n fr lo : Nat} {av : List Value} {rv : Option Value} {rest : List Value} {index : Nat} {S : Type} {W2 : S → va_W} (C : Ok E K cc own nL R) (d : decode cc pc = .ok (.invokestatic index, 3)) (L : LnN own index y) (M : MfS y cc2 maxL ret n) (hM : ∀ l, Con l y cc2 maxL ret fr lo K Wd W2 av rv) (hn : av.length = n) (hst : st = av.reverse ++ rest) (hcat : (rest.map fun v => v.category).sum ≤ 8) (hR : fr + 1 ≤ R.frames ∧ 8 + (maxL + 11) + lo ≤ R.locals) (hc : kc ≤ R.cells ∧ ks ≤ R.slots) (k : ∀ u : S, G E K kc ks (W2 u) lv (pc + 3) (rv.toList ++ rest)) : G E K kc ks Wd lv pc st := by
  obtain ⟨p, l, e, R1, s, m, args, below, meth, c, Q, A, nL1⟩ := E
  obtain ⟨hx, hb, hml, hown, hts, hN, hK, hA, rfl, rfl⟩ := C
  intro H locs ls hP hD hS hl
  subst hst
  have hF := va_freeW hD hS hA
  obtain ⟨m1, m2, m3, m4⟩ := M
  exact va_callG (va_runSN ⟨hx, hb, hml, hown, hts⟩ (hM l H.size) ⟨va_cnB n hts (lw_gi (fun w hw => by
    rcases List.mem_cons.mp hw with h | h
    · rw [h]; exact m1
    · exact h)) rfl rfl rfl (hN _ L) (hts _ m2) m4 hR, hts _ m3, trivial⟩ ⟨conP_blind _ _ _ _, fun U hU hW => ⟨rfl, by rw [hU], by rw [hU]; exact hP, NW.warm hW hN, va_K.moved hW.alike hK, hD.weaken (fun _ _ _ _ => trivial)⟩⟩ rfl hn hl.1 rfl (lv_room hcat) d hc) hS hF (fun u H1 locs1 hP1 hD1 hS1 => k u H1 locs1 ls hP1 hD1 hS1 hl)
theorem g_callV {E : EnvT} {K : KT} {cc : ByteArray} {own : String} {nL : Nat} {R : Room} {kc ks : Nat} {Wd : va_W} {lv : List (Nat × Value)} {pc : Nat} {st : List Value} {y : MethodName} {cc2 : ByteArray} {maxL : Nat} {ret : Option FieldType} {n fr lo : Nat} {av : List Value} {rv : Option Value} {rest : List Value} {index : Nat} {S : Type} {W2 : S → va_W} {b ci : Nat} {T : u_T} {N0 : Nat} {fs : List Value} (C : Ok E K cc own nL R) (d : decode cc pc = .ok (.invokevirtual index, 3)) (L : Ln own index y) (M : MfV y cc2 maxL ret n) (q0 : Nat) (he : Wd[q0]? = some (oB b ci fs)) (hcl : vwCl[ci]? = some (y.cls, T, N0)) (hM : ∀ l, Con l y cc2 maxL ret fr lo K Wd W2 (.ref b :: av) rv) (hn : av.length = n) (hst : st = av.reverse ++ .ref b :: rest) (hcat : (rest.map fun v => v.category).sum ≤ 8) (hR : fr + 1 ≤ R.frames ∧ 8 + (maxL + 11) + lo ≤ R.locals) (hc : kc ≤ R.cells ∧ ks ≤ R.slots) (k : ∀ u : S, G E K kc ks (W2 u) lv (pc + 3) (rv.toList ++ rest)) : G E K kc ks Wd lv pc st := by
  obtain ⟨p, l, e, R1, s, m, args, below, meth, c, Q, A, nL1⟩ := E
  obtain ⟨hx, hb, hml, hown, hts, hN, hK, hA, rfl, rfl⟩ := C
  intro H locs ls hP hD hS hl
  subst hst
  have hF := va_freeW hD hS hA
  obtain ⟨m1, m2, m3, m4, m5⟩ := M
  exact va_callG (va_runV ⟨hx, hb, hml, hown, hts⟩ (hM l H.size) (cwV n hts (lw_gi (fun w hw => by
    rcases List.mem_append.mp hw with h | h
    · rcases List.mem_cons.mp h with h | h
      · rw [h]; exact L
      · rcases List.mem_cons.mp h with h | h
        · rw [h]; exact m3
        · rcases List.mem_cons.mp h with h | h
          · rw [h]; exact m4
          · rw [List.mem_singleton.mp h]; exact m2
    · rcases List.mem_cons.mp h with h | h
      · rw [h]; exact m1
      · exact h)) rfl rfl rfl ⟨rfl, m5⟩ hR) ⟨conP_blind _ _ _ _, va_recv hK hP hcl he, fun U hU hW => ⟨rfl, by rw [hU], by rw [hU]; exact hP, NW.warm hW hN, va_K.moved hW.alike hK, hD.weaken (fun _ _ _ _ => trivial)⟩⟩ rfl hn hl.1 rfl (lv_room hcat) d hc) hS hF (fun u H1 locs1 hP1 hD1 hS1 => k u H1 locs1 ls hP1 hD1 hS1 hl)
theorem g_callVN {E : EnvT} {K : KT} {cc : ByteArray} {own : String} {nL : Nat} {R : Room} {kc ks : Nat} {Wd : va_W} {lv : List (Nat × Value)} {pc : Nat} {st : List Value} {y : MethodName} {cc2 : ByteArray} {maxL : Nat} {ret : Option FieldType} {n fr lo : Nat} {av : List Value} {rv : Option Value} {rest : List Value} {index : Nat} {S : Type} {W2 : S → va_W} {b ci : Nat} {T : u_T} {N0 : Nat} {fs : List Value} (C : Ok E K cc own nL R) (d : decode cc pc = .ok (.invokevirtual index, 3)) (L : LnN own index y) (M : MfV y cc2 maxL ret n) (q0 : Nat) (he : Wd[q0]? = some (oB b ci fs)) (hcl : vwCl[ci]? = some (y.cls, T, N0)) (hM : ∀ l, Con l y cc2 maxL ret fr lo K Wd W2 (.ref b :: av) rv) (hn : av.length = n) (hst : st = av.reverse ++ .ref b :: rest) (hcat : (rest.map fun v => v.category).sum ≤ 8) (hR : fr + 1 ≤ R.frames ∧ 8 + (maxL + 11) + lo ≤ R.locals) (hc : kc ≤ R.cells ∧ ks ≤ R.slots) (k : ∀ u : S, G E K kc ks (W2 u) lv (pc + 3) (rv.toList ++ rest)) : G E K kc ks Wd lv pc st := by
  obtain ⟨p, l, e, R1, s, m, args, below, meth, c, Q, A, nL1⟩ := E
  obtain ⟨hx, hb, hml, hown, hts, hN, hK, hA, rfl, rfl⟩ := C
  intro H locs ls hP hD hS hl
  subst hst
  have hF := va_freeW hD hS hA
  obtain ⟨m1, m2, m3, m4, m5⟩ := M
  exact va_callG (va_runVN ⟨hx, hb, hml, hown, hts⟩ (hM l H.size) ⟨va_cnB n hts (lw_gi (fun w hw => by
    rcases List.mem_cons.mp hw with h | h
    · rw [h]; exact m1
    · exact h)) rfl rfl rfl (hN _ L) (hts _ m2) m5 hR, hts _ m3, hts _ m4⟩ ⟨conP_blind _ _ _ _, va_recv hK hP hcl he, fun U hU hW => ⟨rfl, by rw [hU], by rw [hU]; exact hP, NW.warm hW hN, va_K.moved hW.alike hK, hD.weaken (fun _ _ _ _ => trivial)⟩⟩ rfl hn hl.1 rfl (lv_room hcat) d hc) hS hF (fun u H1 locs1 hP1 hD1 hS1 => k u H1 locs1 ls hP1 hD1 hS1 hl)
