theorem rotP {D : va_G} {cl : List vw_C} {ws : va_W} {c : Nat × va_E} {H : Heap} (h : va_P D cl (ws ++ [c]) H) : va_P D cl (c :: ws) H := by
  intro k q hk
  have hm : q ∈ ws ++ [c] := by
    rcases List.mem_cons.mp (List.mem_of_getElem? hk) with e | e
    · rw [e]; exact List.mem_append_right _ List.mem_cons_self
    · exact List.mem_append_left _ e
  obtain ⟨i, hi⟩ := List.getElem?_of_mem hm
  exact h i q hi
theorem rotD {A : Nat → Prop} {ws : va_W} {c : Nat × va_E} (h : va_D A (ws ++ [c])) : va_D A (c :: ws) := by
  refine h.by (fun k => if k = 0 then ws.length else k - 1) (fun k q hk => ?_) (fun i j hi hj e => ?_)
  · by_cases h0 : k = 0
    · subst h0
      rw [if_pos rfl, List.getElem?_append_right (Nat.le_refl _), Nat.sub_self]
      exact hk
    · obtain ⟨n, rfl⟩ : ∃ n, k = n + 1 := ⟨k - 1, by omega⟩
      rw [if_neg h0, Nat.add_sub_cancel]
      have h1 : ws[n]? = some q := hk
      rw [List.getElem?_append_left (List.getElem?_eq_some_iff.mp h1).1]
      exact h1
  · rw [List.length_cons] at hi hj
    by_cases h1 : i = 0 <;> by_cases h2 : j = 0 <;> simp only [h1, h2, if_true, if_false] at e <;> omega
def OkI (E : EnvT) : Prop := match E with
  | (_, _, _, _, s, _, _, _, meth, _, _, _, _) => meth.name = "<init>" ∧ va_AO RX0 s
def AOK (E : EnvT) : Prop := match E with
  | (_, _, _, _, s, _, _, _, _, _, _, _, _) => va_AO RX0 s
def ConPN (K : KT) (Wd : va_W) (av : List Value) (sz : Nat) : Array Value → State → Prop := va_Pc av (fun U => U.heap.size = sz ∧ va_P K.1 vwCl Wd U.heap ∧ NW U ∧ va_K K.1 vwCl (tysK K) U ∧ va_D (fun _ => True) Wd ∧ va_AO RX0 U)
abbrev rmN (fr lo mc ms : Nat) : Room := { frames := fr, cells := mc, slots := ms, locals := lo }
def ConN (l : Launch) (y : MethodName) (cc : ByteArray) (maxL : Nat) (fr lo mc ms : Nat) (K : KT) (Wd : va_W) {S : Type} (W2 : S → va_W) (av : List Value) : Prop := ∀ sz : Nat, Met l y (Cond.code y cc maxL none :: lw_G) (rmN fr lo mc ms) (ConPN K Wd av sz) (ConQ K Wd W2 none sz) mc ms (va_A Wd sz)
theorem conPN_blind (K : KT) (Wd : va_W) (av : List Value) (sz : Nat) : FrameBlind (ConPN K Wd av sz) := fun a U g mk q => by
  obtain ⟨q0, q1, qP, qN, qK, qD, qA⟩ := q
  exact ⟨q0, q1, qP, NW.same (u := U) rfl qN, va_K.moved (u := U) (U := U.calling g mk a) (Vm.Alike.refl U.vm) qK, qD, va_AO.moved (u := U) (U := U.calling g mk a) (Vm.Alike.refl U.vm) qA⟩
def RetN (E : EnvT) (K : KT) (cc : ByteArray) (mc ms : Nat) {S : Type} (W2 : S → va_W) : Prop := ∀ (pc : Nat) (lv : LV) (Wx : va_W) (u : S), decode cc pc = .ok (.return_, 1) → Wx = W2 u → G E K mc ms Wx lv pc []
theorem conN {y : MethodName} {cc : ByteArray} {maxL : Nat} {fr lo mc ms : Nat} {K : KT} {Wd : va_W} {S : Type} {W2 : S → va_W} {av : List Value} (hy : plainName y.cls = true) (hyn : y.name = "<init>") (hlen : (lg_sl av).length ≤ maxL) (body : ∀ E : EnvT, Ok E K cc y.cls maxL (rmN fr lo mc ms) → OkI E → RetN E K cc mc ms W2 → G E K 0 0 Wd (lv_args 0 av) 0 []) : ∀ l : Launch, ConN l y cc maxL fr lo mc ms K Wd W2 av := by
  intro l sz
  refine Met.ofW (cc := cc) (maxL := maxL) (ret := none) hy rfl ?_
  intro p e s m args below meth c s₁ B hml hv
  obtain ⟨rfl, hsz, hP, hN, hK, hD0, hAO⟩ := hv
  have hts := atoms_spec (ws := Cond.code y cc maxL none :: lw_G) B.pre
  have hown : s.vm.findClass y.cls = some m.cls := findClass_of_methodNamed B.named
  have hlocks := B.notSynchronized
  have hx := B.exec
  have hb := B.bytes
  have hr := B.returns
  have hin : meth.name = "<init>" := ((name_of_methodNamed B.named B.method).1).trans hyn
  subst hsz
  have hl := lv_entry av (n := maxL) hlen
  rw [lg_entry_eq]
  refine body (p, l, e, rmN fr lo mc ms, s, m, av.toArray, below, meth, c, _, va_A Wd s.heap.size, maxL) ⟨hx, hb, hml, hown, fun w h => hts w (List.mem_cons_of_mem _ h), hN, hK, fun q h => Or.inr h, rfl, rfl⟩ ⟨hin, hAO⟩ ?_ s.heap [] _ hP hD0.self va_S.rf hl
  intro pc lv Wx u d hW H locs ls hP2 hD2 hS2 hl2
  subst hW
  exact W.vret hx hb hr (fun t ht hW => ⟨⟨rfl, u, by rw [ht]; exact hP2, hD2⟩, hS2.F ht⟩) hS2.2.2 d
theorem va_callN {p : Program} {l : Launch} {e : Env} {R : Room} {s : State} {m : MethodId} {args : Array Value} {below : List Frame} {meth : Method} {c : Code} {H : Heap} {locs : List Loc} {kc ks mc ms : Nat} {Q : State → Prop} {pc : Nat} {ls : Array Slot} {st0 rest : List Value} {K : KT} {Wd : va_W} {S : Type} {W2 : S → va_W} {rv : Option Value} {A0 : Nat → Prop} {a : Array Value}
    (hr : va_Run p l e R s m args below meth c H locs kc ks mc ms (F0 m pc ls st0) rest (ConQ K Wd W2 rv H.size a) (va_A Wd H.size)) (hS : va_S A0 s.heap H locs) (hA : ∀ q, va_A Wd H.size q → A0 q)
    (kk : ∀ (u : S) (H1 : Heap) (locs1 : List Loc), va_P K.1 vwCl (W2 u) H1 → va_D A0 (W2 u) → va_S A0 s.heap H1 locs1 → W p l e R s m args below meth c H1 locs1 (kc + mc) (ks + ms) Q (F0 m (pc + 3) ls (rv.toList ++ rest))) : W p l e R s m args below meth c H locs kc ks Q (F0 m pc ls st0) := by
  intro T hT X
  obtain ⟨v, st₀, t, T2, L, h0, X2, hL, e1, e2, ⟨⟨hv, u, hP1, hD1⟩, hz, hk⟩, st⟩ := hr T hT X
  cases hv
  rw [h0] at hz hk
  obtain ⟨t2, a1, b1⟩ := kk u T2.heap (locs ++ L) (by rw [e1]; exact hP1) (hD1.weaken (fun _ q _ h => hA q.1 h))
    ⟨Nat.le_trans hS.1 (by rw [e1]; exact hz), fun q h1 h2 => by rw [e1, hk q (Nat.lt_of_lt_of_le h1 hS.1) (fun z => h2 (hA q z))]; exact hS.2.1 q h1 h2, fun q hq => by
      rcases List.mem_append.mp hq with h | h
      · exact hS.2.2 q h
      · exact hA _ (hL q h)⟩ T2 rfl X2
  exact ⟨t2, st t2 a1, b1⟩
def FPF (own : String) (index ci k : Nat) (ty : FieldType) : Prop := ∃ (Cn : String) (T : u_T) (N : Nat), vwCl[ci]? = some (Cn, T, N) ∧ k < N ∧ Cond.fieldLink own index (T k).1 (T k).2.1 (T k).2.2.1 ∈ lw_G ∧ (∀ w ∈ u_ws Cn T N, w ∈ lw_G) ∧ (∃ ty0 : Nat → FieldType, ∀ k, k < N → parseFieldDescriptor (T k).2.2.1 = some (ty0 k)) ∧ (∀ a, a < N → ∀ b, b < N → a ≠ b → (T a).2.1 ≠ (T b).2.1) ∧ (T k).2.2.2 = true ∧ (T k).1 = own ∧ parseFieldDescriptor (T k).2.2.1 = some ty
def NwC (Cn : String) (ci N : Nat) (fs : List Value) : Prop := ∃ (T : u_T) (ty : Nat → FieldType), vwCl[ci]? = some (Cn, T, N) ∧ Cond.instantiable Cn N ∈ lw_G ∧ Cond.initialized Cn ∈ lw_G ∧ (∀ w ∈ u_ws Cn T N, w ∈ lw_G) ∧ (∀ k, k < N → parseFieldDescriptor (T k).2.2.1 = some (ty k)) ∧ ∀ j, j < N → defaultValue (ty j) = vp_V fs j
theorem g_putF {E : EnvT} {K : KT} {cc : ByteArray} {own : String} {nL : Nat} {R : Room} {kc ks : Nat} {Wd : va_W} {lv : LV} {pc : Nat} {st : List Value} {index ci j a : Nat} {ty : FieldType} {fs : List Value} {v : Value} {Wd2 : va_W} (C : Ok E K cc own nL R) (I : OkI E) (d : decode cc pc = .ok (.putfield index, 3)) (f : FPF own index ci j ty) (q0 : Nat) (he : Wd[q0]? = some (oB a ci fs)) (hn : narrow ty v = v) (hfit : fits ty v = true) (hl2 : j < fs.length) (hw : Wd.set q0 (oB a ci (fs.set j v)) = Wd2) (k : G E K kc ks Wd2 lv (pc + 3) st) : G E K kc ks Wd lv pc (v :: .ref a :: st) := by
  obtain ⟨p, l, e, R1, s, m, args, below, meth, c, Q, A, nL1⟩ := E
  obtain ⟨hx, hb, hml, hown, hts, hN, hK, hA, rfl, rfl⟩ := C
  intro H locs ls hP hD hS hl
  obtain ⟨Cn, T, N, h1, h2, h3, h4, ⟨ty0, h5⟩, h6, h7, h9, h8⟩ := f
  subst hw
  exact va_putF hx hb hts h4 ty0 h5 h6 hown hK hP hD hS q0 he h1 j h2 (hts _ h3) (fun _ h => h) h7 I.1 h9 h8 hn hfit hl2 d (fun H1 locs1 hP1 hD1 hS1 => k H1 locs1 ls hP1 hD1 hS1 hl)
theorem g_new {E : EnvT} {K : KT} {cc : ByteArray} {own : String} {nL : Nat} {R : Room} {kc ks : Nat} {Wd : va_W} {lv : LV} {pc : Nat} {st : List Value} {index ci N : Nat} {Cn : String} {fs : List Value} (C : Ok E K cc own nL R) (d : decode cc pc = .ok (.new index, 3)) (hcl : Cond.classLink own index Cn ∈ lw_G) (f : NwC Cn ci N fs) (hc : kc + 1 ≤ R.cells) (hs : ks + N ≤ R.slots) (k : ∀ q : Nat, G E K (kc + 1) (ks + N) (oB q ci fs :: Wd) lv (pc + 3) (.ref q :: st)) : G E K kc ks Wd lv pc st := by
  obtain ⟨p, l, e, R1, s, m, args, below, meth, c, Q, A, nL1⟩ := E
  obtain ⟨hx, hb, hml, hown, hts, hN, hK, hA, rfl, rfl⟩ := C
  intro H locs ls hP hD hS hl
  obtain ⟨T, ty, h1, h2, h3, h4, h5, h6⟩ := f
  exact va_new hx hb hts h4 ty h5 hown (hts _ hcl) (hts _ h2) (hts _ h3) hK hP hD hS hA h1 h6 hc hs d (fun q H1 hP1 hD1 hS1 => k q H1 locs ls (rotP hP1) (rotD hD1) hS1 hl)
theorem g_newi {E : EnvT} {K : KT} {cc : ByteArray} {own : String} {nL : Nat} {R : Room} {kc ks : Nat} {Wd : va_W} {lv : LV} {pc : Nat} {st : List Value} {n : Int32} {N : Nat} (C : Ok E K cc own nL R) (d : decode cc pc = .ok (.newarray .int, 2)) (hn : ¬ n < 0) (hNn : n.toNatClampNeg = N) (hby : N * 4 ≤ 536870912) (hc : kc + 1 ≤ R.cells) (hs : ks + N ≤ R.slots) (k : ∀ q : Nat, G E K (kc + 1) (ks + N) (aI K q N (fun _ => 0) :: Wd) lv (pc + 2) (.ref q :: st)) : G E K kc ks Wd lv pc (.int n :: st) := by
  obtain ⟨p, l, e, R1, s, m, args, below, meth, c, Q, A, nL1⟩ := E
  obtain ⟨hx, hb, hml, hown, hts, hN, hK, hA, rfl, rfl⟩ := C
  intro H locs ls hP hD hS hl
  refine va_newa (atype := .int) hx hb (hts _ ac_int) rfl hK hP hD hS hA (a0 := (N, .inl (fun _ => 0))) (fun cA => rfl) hn hNn hby hc hs d (fun q cA H1 hK1 hP1 hD1 hS1 => ?_)
  have e1 : s.vm.findClass ("[" ++ FieldType.int.toString) = some cA := (hK1.2 3 (cA, .int) rfl).2
  have e2 : s.vm.findClass ("[" ++ FieldType.int.toString) = some K.2.1 := (hK.2 0 (K.2.1, .int) rfl).2
  have e3 : cA = K.2.1 := Option.some.inj (e1.symm.trans e2)
  subst e3
  exact k q H1 locs ls (rotP hP1) (rotD hD1) hS1 hl
theorem g_newl {E : EnvT} {K : KT} {cc : ByteArray} {own : String} {nL : Nat} {R : Room} {kc ks : Nat} {Wd : va_W} {lv : LV} {pc : Nat} {st : List Value} {n : Int32} {N : Nat} (C : Ok E K cc own nL R) (d : decode cc pc = .ok (.newarray .long, 2)) (hn : ¬ n < 0) (hNn : n.toNatClampNeg = N) (hby : N * 8 ≤ 536870912) (hc : kc + 1 ≤ R.cells) (hs : ks + N ≤ R.slots) (k : ∀ q : Nat, G E K (kc + 1) (ks + N) (aJ K q N (fun _ => 0) :: Wd) lv (pc + 2) (.ref q :: st)) : G E K kc ks Wd lv pc (.int n :: st) := by
  obtain ⟨p, l, e, R1, s, m, args, below, meth, c, Q, A, nL1⟩ := E
  obtain ⟨hx, hb, hml, hown, hts, hN, hK, hA, rfl, rfl⟩ := C
  intro H locs ls hP hD hS hl
  refine va_newa (atype := .long) hx hb (hts _ ac_long) rfl hK hP hD hS hA (a0 := (N, .inr (.inl (fun _ => 0)))) (fun cA => rfl) hn hNn hby hc hs d (fun q cA H1 hK1 hP1 hD1 hS1 => ?_)
  have e1 : s.vm.findClass ("[" ++ FieldType.long.toString) = some cA := (hK1.2 3 (cA, .long) rfl).2
  have e2 : s.vm.findClass ("[" ++ FieldType.long.toString) = some K.2.2.1 := (hK.2 1 (K.2.2.1, .long) rfl).2
  have e3 : cA = K.2.2.1 := Option.some.inj (e1.symm.trans e2)
  subst e3
  exact k q H1 locs ls (rotP hP1) (rotD hD1) hS1 hl
theorem g_newq {E : EnvT} {K : KT} {cc : ByteArray} {own : String} {nL : Nat} {R : Room} {kc ks : Nat} {Wd : va_W} {lv : LV} {pc : Nat} {st : List Value} {index : Nat} {n : Int32} {N : Nat} (C : Ok E K cc own nL R) (I : OkI E) (d : decode cc pc = .ok (.anewarray index, 3)) (hcl : Cond.classLink own index RX0 ∈ lw_G) (hn : ¬ n < 0) (hNn : n.toNatClampNeg = N) (hby : N * 4 ≤ 536870912) (hc : kc + 1 ≤ R.cells) (hs : ks + N ≤ R.slots) (k : ∀ q : Nat, G E K (kc + 1) (ks + N) (aO K q N (fun _ => none) :: Wd) lv (pc + 3) (.ref q :: st)) : G E K kc ks Wd lv pc (.int n :: st) := by
  obtain ⟨p, l, e, R1, s, m, args, below, meth, c, Q, A, nL1⟩ := E
  obtain ⟨hx, hb, hml, hown, hts, hN, hK, hA, rfl, rfl⟩ := C
  intro H locs ls hP hD hS hl
  refine va_newq hx hb hown (hts _ hcl) I.2 hK hP hD hS hA hn hNn hby hc hs d (fun q cA H1 hK1 hP1 hD1 hS1 => ?_)
  obtain ⟨_, _, _, _, _, e1⟩ := (hK1.2 3 (cA, .object RX0) rfl).2
  obtain ⟨_, _, _, _, _, e2⟩ := (hK.2 2 (K.2.2.2, .object RX0) rfl).2
  have e3 : cA = K.2.2.2 := Option.some.inj (e1.symm.trans e2)
  subst e3
  exact k q H1 locs ls (rotP hP1) (rotD hD1) hS1 hl
theorem g_aast {E : EnvT} {K : KT} {cc : ByteArray} {own : String} {nL : Nat} {R : Room} {kc ks : Nat} {Wd : va_W} {lv : LV} {pc : Nat} {st : List Value} {a n v : Nat} {vs : List Value} {f : Nat → Option Nat} {i : Int32} {Wd2 : va_W} (C : Ok E K cc own nL R) (d : decode cc pc = .ok (.aastore, 1)) (q0 qk : Nat) (he : Wd[q0]? = some (aO K a n f)) (hv : Wd[qk]? = some (oB v 0 vs)) (hin : vp_in i n) (hw : Wd.set q0 (aO K a n (va_up f i.toNatClampNeg (some v))) = Wd2) (k : G E K kc ks Wd2 lv (pc + 1) st) : G E K kc ks Wd lv pc (.ref v :: .int i :: .ref a :: st) := by
  obtain ⟨p, l, e, R1, s, m, args, below, meth, c, Q, A, nL1⟩ := E
  obtain ⟨hx, hb, hml, hown, hts, hN, hK, hA, rfl, rfl⟩ := C
  intro H locs ls hP hD hS hl
  subst hw
  exact va_astq hx hb hK hP hD hS q0 2 qk 0 (r := (RX0, TX0, 1)) he rfl hv rfl hin d (fun H1 locs1 hP1 hD1 hS1 => k H1 locs1 ls hP1 hD1 hS1 hl)
theorem g_objI {E : EnvT} {K : KT} {cc : ByteArray} {own : String} {nL : Nat} {R : Room} {kc ks : Nat} {Wd : va_W} {lv : LV} {pc : Nat} {st : List Value} {index a : Nat} (C : Ok E K cc own nL R) (d : decode cc pc = .ok (.invokespecial index, 3)) (hln : Cond.methodLink own index objectInit ∈ lw_G) (hf : 1 ≤ R.frames) (hlo : (st.map fun v => v.category).sum + 12 ≤ R.locals) (k : G E K kc ks Wd lv (pc + 3) st) : G E K kc ks Wd lv pc (.ref a :: st) := by
  obtain ⟨p, l, e, R1, s, m, args, below, meth, c, Q, A, nL1⟩ := E
  obtain ⟨hx, hb, hml, hown, hts, hN, hK, hA, rfl, rfl⟩ := C
  intro H locs ls hP hD hS hl
  exact W.objInit hx hb hown (hts _ hln) (hts _ oi_inst) (hts _ oi_code) rfl (by rw [hml]; exact hl.1) rfl d hf (by show 2 * 0 + _ + 12 ≤ _; omega) (k H locs ls hP hD hS hl)
theorem g_callIN {E : EnvT} {K : KT} {cc : ByteArray} {own : String} {nL : Nat} {R : Room} {kc ks : Nat} {Wd : va_W} {lv : LV} {pc : Nat} {y : MethodName} {cc2 : ByteArray} {maxL : Nat} {fr lo mc ms : Nat} {b : Nat} {rest : List Value} {index : Nat} {S : Type} {W2 : S → va_W} (C : Ok E K cc own nL R) (I : OkI E) (d : decode cc pc = .ok (.invokespecial index, 3)) (L : LnN own index y) (M : Cond.code y cc2 maxL none ∈ lw_G ∧ Cond.initialized y.cls ∈ lw_G ∧ Cond.instanceMethod y ∈ lw_G) (hy1 : y.name = "<init>") (hd : y.cls ≠ "java/lang/invoke/MethodHandle" ∧ y.cls ≠ "java/lang/invoke/VarHandle" ∧ (parseMethodDescriptor y.desc).map (fun d => d.parameters.length) = some 0) (hM : ∀ l, ConN l y cc2 maxL fr lo mc ms K Wd W2 [.ref b]) (hcat : (rest.map fun v => v.category).sum ≤ 8) (hR : fr + 1 ≤ R.frames ∧ 8 + (maxL + 11) + lo ≤ R.locals) (hc : kc + mc ≤ R.cells ∧ ks + ms ≤ R.slots) (k : ∀ u : S, G E K (kc + mc) (ks + ms) (W2 u) lv (pc + 3) rest) : G E K kc ks Wd lv pc (.ref b :: rest) := by
  obtain ⟨p, l, e, R1, s, m, args, below, meth, c, Q, A, nL1⟩ := E
  obtain ⟨hx, hb, hml, hown, hts, hN, hK, hA, rfl, rfl⟩ := C
  intro H locs ls hP hD hS hl
  have hF := va_freeW hD hS hA
  obtain ⟨m1, m2, m3⟩ := M
  exact va_callN (va_runIN (As := []) ⟨hx, hb, hml, hown, hts⟩ (hM l H.size) ⟨va_cnB 0 hts (lw_gi (fun w hw => by
    rcases List.mem_cons.mp hw with h | h
    · rw [h]; exact m1
    · exact h)) rfl rfl rfl (hN _ L) (hts _ m2) hd hR, hy1, hts _ m3⟩ ⟨conPN_blind _ _ _ _, fun U hU hW => ⟨rfl, by rw [hU], by rw [hU]; exact hP, NW.warm hW hN, va_K.moved hW.alike hK, hD.weaken (fun _ _ _ _ => trivial), va_AO.moved hW.alike I.2⟩⟩ rfl rfl hl.1 rfl (lv_room hcat) d hc) hS hF (fun u H1 locs1 hP1 hD1 hS1 => k u H1 locs1 ls hP1 hD1 hS1 hl)
theorem g_callI {E : EnvT} {K : KT} {cc : ByteArray} {own : String} {nL : Nat} {R : Room} {kc ks : Nat} {Wd : va_W} {lv : LV} {pc : Nat} {y : MethodName} {cc2 : ByteArray} {maxL : Nat} {fr lo mc ms : Nat} {b : Nat} {rest : List Value} {index : Nat} {S : Type} {W2 : S → va_W} (C : Ok E K cc own nL R) (I : AOK E) (d : decode cc pc = .ok (.invokespecial index, 3)) (L : Ln own index y) (M : Cond.code y cc2 maxL none ∈ lw_G ∧ Cond.initialized y.cls ∈ lw_G ∧ Cond.instanceMethod y ∈ lw_G) (hy1 : y.name = "<init>") (hd : y.cls ≠ "java/lang/invoke/MethodHandle" ∧ y.cls ≠ "java/lang/invoke/VarHandle" ∧ (parseMethodDescriptor y.desc).map (fun d => d.parameters.length) = some 0) (hM : ∀ l, ConN l y cc2 maxL fr lo mc ms K Wd W2 [.ref b]) (hcat : (rest.map fun v => v.category).sum ≤ 8) (hR : fr + 1 ≤ R.frames ∧ 8 + (maxL + 11) + lo ≤ R.locals) (hc : kc + mc ≤ R.cells ∧ ks + ms ≤ R.slots) (k : ∀ u : S, G E K (kc + mc) (ks + ms) (W2 u) lv (pc + 3) rest) : G E K kc ks Wd lv pc (.ref b :: rest) := by
  obtain ⟨p, l, e, R1, s, m, args, below, meth, c, Q, A, nL1⟩ := E
  obtain ⟨hx, hb, hml, hown, hts, hN, hK, hA, rfl, rfl⟩ := C
  intro H locs ls hP hD hS hl
  have hF := va_freeW hD hS hA
  obtain ⟨m1, m2, m3⟩ := M
  exact va_callN (va_runI (As := []) ⟨hx, hb, hml, hown, hts⟩ (hM l H.size) (cwI 0 hts (lw_gi (fun w hw => by
    rcases List.mem_cons.mp hw with h | h
    · rw [h]; exact m1
    · exact h)) rfl rfl rfl (hts _ m2) (hts _ L) (hts _ m3) hy1 hd hR) ⟨conPN_blind _ _ _ _, fun U hU hW => ⟨rfl, by rw [hU], by rw [hU]; exact hP, NW.warm hW hN, va_K.moved hW.alike hK, hD.weaken (fun _ _ _ _ => trivial), va_AO.moved hW.alike I⟩⟩ rfl rfl hl.1 rfl (lv_room hcat) d hc) hS hF (fun u H1 locs1 hP1 hD1 hS1 => k u H1 locs1 ls hP1 hD1 hS1 hl)
theorem g_part {E : EnvT} {K : KT} {kc ks : Nat} {L1 L2 X : va_W} {lv : LV} {pc : Nat} {st : List Value} (is : List Nat) (hn : va_nd is = true) (hs : is.map (fun i => L1[i]?) = L2.map some) (k : G E K kc ks (L2 ++ X) lv pc st) : G E K kc ks (L1 ++ X) lv pc st := by
  obtain ⟨p, l, e, R1, s, m, args, below, meth, c, Q, A, nL1⟩ := E
  exact fun H locs ls hP hD hS hl => k H locs ls (hP.part is hs) (hD.part is hn hs) hS hl
theorem g_swap {E : EnvT} {K : KT} {kc ks : Nat} {L1 L2 : va_W} {lv : LV} {pc : Nat} {st : List Value} (k : G E K kc ks (L2 ++ L1) lv pc st) : G E K kc ks (L1 ++ L2) lv pc st := by
  obtain ⟨p, l, e, R1, s, m, args, below, meth, c, Q, A, nL1⟩ := E
  exact fun H locs ls hP hD hS hl => k H locs ls (va_P.swap (a := []) hP) (va_D.swap (a := []) hD) hS hl
set_option maxRecDepth 20000 in
theorem ff_X0_9 : FPF RX0 9 0 0 (.array .long) := ⟨RX0, TX0, 1, rfl, by decide, mw 52 (by rfl) rfl, fx_X0, ⟨tyX0, tyX0_ok⟩, nmX0, rfl, rfl, by decide +kernel⟩
set_option maxRecDepth 20000 in
theorem ff_X1_9 : FPF RX1 9 1 0 (.array .int) := ⟨RX1, TX1, 8, rfl, by decide, mw 59 (by rfl) rfl, fx_X1, ⟨tyX1, tyX1_ok⟩, nmX1, rfl, rfl, by decide +kernel⟩
set_option maxRecDepth 20000 in
theorem ff_X1_13 : FPF RX1 13 1 1 (.array .int) := ⟨RX1, TX1, 8, rfl, by decide, mw 60 (by rfl) rfl, fx_X1, ⟨tyX1, tyX1_ok⟩, nmX1, rfl, rfl, by decide +kernel⟩
set_option maxRecDepth 20000 in
theorem ff_X1_16 : FPF RX1 16 1 2 (.array .long) := ⟨RX1, TX1, 8, rfl, by decide, mw 61 (by rfl) rfl, fx_X1, ⟨tyX1, tyX1_ok⟩, nmX1, rfl, rfl, by decide +kernel⟩
set_option maxRecDepth 20000 in
theorem ff_X1_29 : FPF RX1 29 1 5 (.array (.object "BornNumbers$Sum")) := ⟨RX1, TX1, 8, rfl, by decide, mw 64 (by rfl) rfl, fx_X1, ⟨tyX1, tyX1_ok⟩, nmX1, rfl, rfl, by decide +kernel⟩
set_option maxRecDepth 20000 in
theorem ff_X1_34 : FPF RX1 34 1 6 (.object "BornNumbers$Sum") := ⟨RX1, TX1, 8, rfl, by decide, mw 65 (by rfl) rfl, fx_X1, ⟨tyX1, tyX1_ok⟩, nmX1, rfl, rfl, by decide +kernel⟩
set_option maxRecDepth 20000 in
theorem ff_X1_38 : FPF RX1 38 1 7 (.object "BornNumbers$Sum") := ⟨RX1, TX1, 8, rfl, by decide, mw 66 (by rfl) rfl, fx_X1, ⟨tyX1, tyX1_ok⟩, nmX1, rfl, rfl, by decide +kernel⟩
set_option maxRecDepth 20000 in
theorem ff_X2_7 : FPF RX2 7 2 0 (.array .int) := ⟨RX2, TX2, 10, rfl, by decide, mw 332 (by rfl) rfl, fx_X2, ⟨tyX2, tyX2_ok⟩, nmX2, rfl, rfl, by decide +kernel⟩
set_option maxRecDepth 20000 in
theorem ff_X2_13 : FPF RX2 13 2 1 (.array .int) := ⟨RX2, TX2, 10, rfl, by decide, mw 333 (by rfl) rfl, fx_X2, ⟨tyX2, tyX2_ok⟩, nmX2, rfl, rfl, by decide +kernel⟩
set_option maxRecDepth 20000 in
theorem ff_X2_23 : FPF RX2 23 2 4 (.array .long) := ⟨RX2, TX2, 10, rfl, by decide, mw 336 (by rfl) rfl, fx_X2, ⟨tyX2, tyX2_ok⟩, nmX2, rfl, rfl, by decide +kernel⟩
set_option maxRecDepth 20000 in
theorem ff_X2_27 : FPF RX2 27 2 5 (.array .int) := ⟨RX2, TX2, 10, rfl, by decide, mw 337 (by rfl) rfl, fx_X2, ⟨tyX2, tyX2_ok⟩, nmX2, rfl, rfl, by decide +kernel⟩
theorem nc_X0 : NwC RX0 0 1 [.null] := ⟨TX0, tyX0, rfl, in_X0, it_X0, fx_X0, tyX0_ok, fun j hj => by
  match j, hj with
  | 0, _ => rfl⟩
theorem nc_X1 : NwC RX1 1 8 [.null, .null, .null, .int 0, .int 0, .null, .null, .null] := ⟨TX1, tyX1, rfl, in_X1, it_X1, fx_X1, tyX1_ok, fun j hj => by
  match j, hj with
  | 0, _ => rfl
  | 1, _ => rfl
  | 2, _ => rfl
  | 3, _ => rfl
  | 4, _ => rfl
  | 5, _ => rfl
  | 6, _ => rfl
  | 7, _ => rfl⟩
theorem nc_X2 : NwC RX2 2 10 [.null, .null, .int 0, .int 0, .null, .null, .int 0, .int 0, .long 0, .int 0] := ⟨TX2, tyX2, rfl, in_X2, it_X2, fx_X2, tyX2_ok, fun j hj => by
  match j, hj with
  | 0, _ => rfl
  | 1, _ => rfl
  | 2, _ => rfl
  | 3, _ => rfl
  | 4, _ => rfl
  | 5, _ => rfl
  | 6, _ => rfl
  | 7, _ => rfl
  | 8, _ => rfl
  | 9, _ => rfl⟩
def aH (h : Nat) (ad : Nat → Nat) : Nat → Nat := fun k => if k = 0 then h else ad k
def cS0 : CS := (-4, -4, (fun _ => 0), (fun _ => 0), (fun _ => 0), (fun _ _ => 0))
def mS0 : MSt := ((fun _ => 0), (fun _ => 0), -4, -4, (fun _ => 0), (fun _ => 0), 0, 0, 0, 0)
theorem sn7 {n : Nat} {c : Int32} (k : Nat) (h : c.toNatClampNeg = k) (hk : k < 8 := by decide) : ¬ n + 8 = c.toNatClampNeg := by rw [h]; omega
theorem so_eq {a0 a1 a2 a3 a4 a5 a6 a7 : Nat} (ad : Nat → Nat) (h0 : ad 5 = a0) (h1 : ad 6 = a1) (h2 : ad 7 = a2) (h3 : ad 8 = a3) (h4 : ad 9 = a4) (h5 : ad 10 = a5) (h6 : ad 11 = a6) (h7 : ad 12 = a7) : (va_up (va_up (va_up (va_up (va_up (va_up (va_up (va_up (fun _ => none) (0 : Int32).toNatClampNeg (some a0)) (1 : Int32).toNatClampNeg (some a1)) (2 : Int32).toNatClampNeg (some a2)) (3 : Int32).toNatClampNeg (some a3)) (4 : Int32).toNatClampNeg (some a4)) (5 : Int32).toNatClampNeg (some a5)) (6 : Int32).toNatClampNeg (some a6)) (7 : Int32).toNatClampNeg (some a7)) = soF ad := by
  subst h0 h1 h2 h3 h4 h5 h6 h7
  funext z
  match z with
  | 0 => rfl
  | 1 => rfl
  | 2 => rfl
  | 3 => rfl
  | 4 => rfl
  | 5 => rfl
  | 6 => rfl
  | 7 => rfl
  | n + 8 =>
    have h : ¬ n + 8 < 8 := by omega
    unfold soF
    rw [if_neg h]
    unfold va_up
    rw [if_neg (sn7 7 rfl), if_neg (sn7 6 rfl), if_neg (sn7 5 rfl), if_neg (sn7 4 rfl), if_neg (sn7 3 rfl), if_neg (sn7 2 rfl), if_neg (sn7 1 rfl), if_neg (sn7 0 rfl)]
set_option maxHeartbeats 2000000 in
set_option maxRecDepth 100000 in
theorem kX0_init (K : KT) (h : Nat) (X : va_W) : ∀ lau : Launch, ConN lau yX0_init cX0_init 1 1 12 1 13 K (oB h 0 [.null] :: X) (fun f : Nat => aJ K f 13 (fun _ => 0) :: oB h 0 [.ref f] :: X) [.ref h] := by
  refine conN (by decide) rfl (Nat.le_of_ble_eq_true rfl) (fun E C I hR => ?_)
  show G E K 0 0 (oB h 0 [.null] :: X) [(0, .ref h)] 0 []
  refine g_aload_n (i := 0) C dX0_init_0 rfl rfl ?_
  refine g_objI C dX0_init_1 ln_X0_3 (Nat.le_of_ble_eq_true rfl) (Nat.le_of_ble_eq_true rfl) ?_
  refine g_aload_n (i := 0) C dX0_init_4 rfl rfl ?_
  refine g_bipush (v := 13) C dX0_init_5 (by decide) ?_
  refine g_newl (N := 13) C dX0_init_7 (by decide) (by decide) (by decide) (Nat.le_of_ble_eq_true rfl) (Nat.le_of_ble_eq_true rfl) (fun q1 => ?_)
  refine g_putF (Wd2 := (aJ K q1 13 (fun _ => 0) :: oB h 0 [.ref q1] :: X)) C I dX0_init_9 ff_X0_9 1 rfl rfl rfl (Nat.le_of_ble_eq_true rfl) rfl ?_
  exact hR _ _ _ q1 dX0_init_12 rfl

set_option maxHeartbeats 2000000 in
set_option maxRecDepth 100000 in
theorem kX2_init (K : KT) (h : Nat) (X : va_W) : ∀ lau : Launch, ConN lau yX2_init cX2_init 1 1 12 4 284 K (oB h 2 [.null, .null, .int 0, .int 0, .null, .null, .int 0, .int 0, .long 0, .int 0] :: X) (fun bd : Nat → Nat => mW K (aH h bd) mS0 X) [.ref h] := by
  refine conN (by decide) rfl (Nat.le_of_ble_eq_true rfl) (fun E C I hR => ?_)
  show G E K 0 0 (oB h 2 [.null, .null, .int 0, .int 0, .null, .null, .int 0, .int 0, .long 0, .int 0] :: X) [(0, .ref h)] 0 []
  refine g_aload_n (i := 0) C dX2_init_0 rfl rfl ?_
  refine g_objI C dX2_init_1 ln_X2_1 (Nat.le_of_ble_eq_true rfl) (Nat.le_of_ble_eq_true rfl) ?_
  refine g_aload_n (i := 0) C dX2_init_4 rfl rfl ?_
  refine g_bipush (v := 12) C dX2_init_5 (by decide) ?_
  refine g_newi (N := 12) C dX2_init_7 (by decide) (by decide) (by decide) (Nat.le_of_ble_eq_true rfl) (Nat.le_of_ble_eq_true rfl) (fun q1 => ?_)
  refine g_putF (Wd2 := (aI K q1 12 (fun _ => 0) :: oB h 2 [.ref q1, .null, .int 0, .int 0, .null, .null, .int 0, .int 0, .long 0, .int 0] :: X)) C I dX2_init_9 ff_X2_7 1 rfl rfl rfl (Nat.le_of_ble_eq_true rfl) rfl ?_
  refine g_aload_n (i := 0) C dX2_init_12 rfl rfl ?_
  refine g_bipush (v := 12) C dX2_init_13 (by decide) ?_
  refine g_newi (N := 12) C dX2_init_15 (by decide) (by decide) (by decide) (Nat.le_of_ble_eq_true rfl) (Nat.le_of_ble_eq_true rfl) (fun q2 => ?_)
  refine g_putF (Wd2 := (aI K q2 12 (fun _ => 0) :: aI K q1 12 (fun _ => 0) :: oB h 2 [.ref q1, .ref q2, .int 0, .int 0, .null, .null, .int 0, .int 0, .long 0, .int 0] :: X)) C I dX2_init_17 ff_X2_13 2 rfl rfl rfl (Nat.le_of_ble_eq_true rfl) rfl ?_
  refine g_aload_n (i := 0) C dX2_init_20 rfl rfl ?_
  refine g_bipush (v := (-4)) C dX2_init_21 (by decide) ?_
  refine g_put (Wd2 := (aI K q2 12 (fun _ => 0) :: aI K q1 12 (fun _ => 0) :: oB h 2 [.ref q1, .ref q2, .int (-4), .int 0, .null, .null, .int 0, .int 0, .long 0, .int 0] :: X)) C dX2_init_23 fp_X2_16 2 rfl rfl rfl (Nat.le_of_ble_eq_true rfl) rfl ?_
  refine g_aload_n (i := 0) C dX2_init_26 rfl rfl ?_
  refine g_bipush (v := (-4)) C dX2_init_27 (by decide) ?_
  refine g_put (Wd2 := (aI K q2 12 (fun _ => 0) :: aI K q1 12 (fun _ => 0) :: oB h 2 [.ref q1, .ref q2, .int (-4), .int (-4), .null, .null, .int 0, .int 0, .long 0, .int 0] :: X)) C dX2_init_29 fp_X2_20 2 rfl rfl rfl (Nat.le_of_ble_eq_true rfl) rfl ?_
  refine g_aload_n (i := 0) C dX2_init_32 rfl rfl ?_
  refine g_sipush (v := 130) C dX2_init_33 (by decide) ?_
  refine g_newl (N := 130) C dX2_init_36 (by decide) (by decide) (by decide) (Nat.le_of_ble_eq_true rfl) (Nat.le_of_ble_eq_true rfl) (fun q3 => ?_)
  refine g_putF (Wd2 := (aJ K q3 130 (fun _ => 0) :: aI K q2 12 (fun _ => 0) :: aI K q1 12 (fun _ => 0) :: oB h 2 [.ref q1, .ref q2, .int (-4), .int (-4), .ref q3, .null, .int 0, .int 0, .long 0, .int 0] :: X)) C I dX2_init_38 ff_X2_23 3 rfl rfl rfl (Nat.le_of_ble_eq_true rfl) rfl ?_
  refine g_aload_n (i := 0) C dX2_init_41 rfl rfl ?_
  refine g_sipush (v := 130) C dX2_init_42 (by decide) ?_
  refine g_newi (N := 130) C dX2_init_45 (by decide) (by decide) (by decide) (Nat.le_of_ble_eq_true rfl) (Nat.le_of_ble_eq_true rfl) (fun q4 => ?_)
  refine g_putF (Wd2 := (aI K q4 130 (fun _ => 0) :: aJ K q3 130 (fun _ => 0) :: aI K q2 12 (fun _ => 0) :: aI K q1 12 (fun _ => 0) :: oB h 2 [.ref q1, .ref q2, .int (-4), .int (-4), .ref q3, .ref q4, .int 0, .int 0, .long 0, .int 0] :: X)) C I dX2_init_47 ff_X2_27 4 rfl rfl rfl (Nat.le_of_ble_eq_true rfl) rfl ?_
  refine g_part (L1 := [aI K q4 130 (fun _ => 0), aJ K q3 130 (fun _ => 0), aI K q2 12 (fun _ => 0), aI K q1 12 (fun _ => 0), oB h 2 [.ref q1, .ref q2, .int (-4), .int (-4), .ref q3, .ref q4, .int 0, .int 0, .long 0, .int 0]]) (L2 := [oB h 2 [.ref q1, .ref q2, .int (-4), .int (-4), .ref q3, .ref q4, .int 0, .int 0, .long 0, .int 0], aI K q1 12 (fun _ => 0), aI K q2 12 (fun _ => 0), aJ K q3 130 (fun _ => 0), aI K q4 130 (fun _ => 0)]) (X := X) [4, 3, 2, 1, 0] (by decide) rfl ?_
  exact hR _ _ _ (fun k => [h, q1, q2, q3, q4].getD k 0) dX2_init_50 rfl

set_option maxHeartbeats 2000000 in
set_option maxRecDepth 100000 in
theorem kX1_init (K : KT) (h : Nat) (X : va_W) : ∀ lau : Launch, ConN lau yX1_init cX1_init 2 2 32 24 184 K (oB h 1 [.null, .null, .null, .int 0, .int 0, .null, .null, .null] :: X) (fun ad : Nat → Nat => cW K (aH h ad) cS0 X) [.ref h] := by
  refine conN (by decide) rfl (Nat.le_of_ble_eq_true rfl) (fun E C I hR => ?_)
  show G E K 0 0 (oB h 1 [.null, .null, .null, .int 0, .int 0, .null, .null, .null] :: X) [(0, .ref h)] 0 []
  refine g_aload_n (i := 0) C dX1_init_0 rfl rfl ?_
  refine g_objI C dX1_init_1 ln_X1_3 (Nat.le_of_ble_eq_true rfl) (Nat.le_of_ble_eq_true rfl) ?_
  refine g_aload_n (i := 0) C dX1_init_4 rfl rfl ?_
  refine g_bipush (v := 12) C dX1_init_5 (by decide) ?_
  refine g_newi (N := 12) C dX1_init_7 (by decide) (by decide) (by decide) (Nat.le_of_ble_eq_true rfl) (Nat.le_of_ble_eq_true rfl) (fun q1 => ?_)
  refine g_putF (Wd2 := (aI K q1 12 (fun _ => 0) :: oB h 1 [.ref q1, .null, .null, .int 0, .int 0, .null, .null, .null] :: X)) C I dX1_init_9 ff_X1_9 1 rfl rfl rfl (Nat.le_of_ble_eq_true rfl) rfl ?_
  refine g_aload_n (i := 0) C dX1_init_12 rfl rfl ?_
  refine g_bipush (v := 12) C dX1_init_13 (by decide) ?_
  refine g_newi (N := 12) C dX1_init_15 (by decide) (by decide) (by decide) (Nat.le_of_ble_eq_true rfl) (Nat.le_of_ble_eq_true rfl) (fun q2 => ?_)
  refine g_putF (Wd2 := (aI K q2 12 (fun _ => 0) :: aI K q1 12 (fun _ => 0) :: oB h 1 [.ref q1, .ref q2, .null, .int 0, .int 0, .null, .null, .null] :: X)) C I dX1_init_17 ff_X1_13 2 rfl rfl rfl (Nat.le_of_ble_eq_true rfl) rfl ?_
  refine g_aload_n (i := 0) C dX1_init_20 rfl rfl ?_
  refine g_bipush (v := 12) C dX1_init_21 (by decide) ?_
  refine g_newl (N := 12) C dX1_init_23 (by decide) (by decide) (by decide) (Nat.le_of_ble_eq_true rfl) (Nat.le_of_ble_eq_true rfl) (fun q3 => ?_)
  refine g_putF (Wd2 := (aJ K q3 12 (fun _ => 0) :: aI K q2 12 (fun _ => 0) :: aI K q1 12 (fun _ => 0) :: oB h 1 [.ref q1, .ref q2, .ref q3, .int 0, .int 0, .null, .null, .null] :: X)) C I dX1_init_25 ff_X1_16 3 rfl rfl rfl (Nat.le_of_ble_eq_true rfl) rfl ?_
  refine g_aload_n (i := 0) C dX1_init_28 rfl rfl ?_
  refine g_bipush (v := (-4)) C dX1_init_29 (by decide) ?_
  refine g_put (Wd2 := (aJ K q3 12 (fun _ => 0) :: aI K q2 12 (fun _ => 0) :: aI K q1 12 (fun _ => 0) :: oB h 1 [.ref q1, .ref q2, .ref q3, .int (-4), .int 0, .null, .null, .null] :: X)) C dX1_init_31 fp_X1_20 3 rfl rfl rfl (Nat.le_of_ble_eq_true rfl) rfl ?_
  refine g_aload_n (i := 0) C dX1_init_34 rfl rfl ?_
  refine g_bipush (v := (-4)) C dX1_init_35 (by decide) ?_
  refine g_put (Wd2 := (aJ K q3 12 (fun _ => 0) :: aI K q2 12 (fun _ => 0) :: aI K q1 12 (fun _ => 0) :: oB h 1 [.ref q1, .ref q2, .ref q3, .int (-4), .int (-4), .null, .null, .null] :: X)) C dX1_init_37 fp_X1_24 3 rfl rfl rfl (Nat.le_of_ble_eq_true rfl) rfl ?_
  refine g_aload_n (i := 0) C dX1_init_40 rfl rfl ?_
  refine g_bipush (v := 8) C dX1_init_41 (by decide) ?_
  refine g_newq (N := 8) C I dX1_init_43 cl_X1_27 (by decide) (by decide) (by decide) (Nat.le_of_ble_eq_true rfl) (Nat.le_of_ble_eq_true rfl) (fun q4 => ?_)
  refine g_putF (Wd2 := (aO K q4 8 (fun _ => none) :: aJ K q3 12 (fun _ => 0) :: aI K q2 12 (fun _ => 0) :: aI K q1 12 (fun _ => 0) :: oB h 1 [.ref q1, .ref q2, .ref q3, .int (-4), .int (-4), .ref q4, .null, .null] :: X)) C I dX1_init_46 ff_X1_29 4 rfl rfl rfl (Nat.le_of_ble_eq_true rfl) rfl ?_
  refine g_aload_n (i := 0) C dX1_init_49 rfl rfl ?_
  refine g_new C dX1_init_50 cl_X1_27 nc_X0 (Nat.le_of_ble_eq_true rfl) (Nat.le_of_ble_eq_true rfl) (fun q5 => ?_)
  refine g_dup C dX1_init_53 rfl ?_
  refine g_callIN C I dX1_init_54 ln_X1_33 mfi_X0_init rfl (by decide +kernel) (kX0_init K q5 (aO K q4 8 (fun _ => none) :: aJ K q3 12 (fun _ => 0) :: aI K q2 12 (fun _ => 0) :: aI K q1 12 (fun _ => 0) :: oB h 1 [.ref q1, .ref q2, .ref q3, .int (-4), .int (-4), .ref q4, .null, .null] :: X)) (Nat.le_of_ble_eq_true rfl) ⟨(Nat.le_of_ble_eq_true rfl), (Nat.le_of_ble_eq_true rfl)⟩ ⟨(Nat.le_of_ble_eq_true rfl), (Nat.le_of_ble_eq_true rfl)⟩ (fun q6 => ?_)
  show G E K 6 58 (aJ K q6 13 (fun _ => 0) :: oB q5 0 [.ref q6] :: aO K q4 8 (fun _ => none) :: aJ K q3 12 (fun _ => 0) :: aI K q2 12 (fun _ => 0) :: aI K q1 12 (fun _ => 0) :: oB h 1 [.ref q1, .ref q2, .ref q3, .int (-4), .int (-4), .ref q4, .null, .null] :: X) [(0, .ref h)] 57 [.ref q5, .ref h]
  refine g_putF (Wd2 := (aJ K q6 13 (fun _ => 0) :: oB q5 0 [.ref q6] :: aO K q4 8 (fun _ => none) :: aJ K q3 12 (fun _ => 0) :: aI K q2 12 (fun _ => 0) :: aI K q1 12 (fun _ => 0) :: oB h 1 [.ref q1, .ref q2, .ref q3, .int (-4), .int (-4), .ref q4, .ref q5, .null] :: X)) C I dX1_init_57 ff_X1_34 6 rfl rfl rfl (Nat.le_of_ble_eq_true rfl) rfl ?_
  refine g_aload_n (i := 0) C dX1_init_60 rfl rfl ?_
  refine g_new C dX1_init_61 cl_X1_27 nc_X0 (Nat.le_of_ble_eq_true rfl) (Nat.le_of_ble_eq_true rfl) (fun q7 => ?_)
  refine g_dup C dX1_init_64 rfl ?_
  refine g_callIN C I dX1_init_65 ln_X1_33 mfi_X0_init rfl (by decide +kernel) (kX0_init K q7 (aJ K q6 13 (fun _ => 0) :: oB q5 0 [.ref q6] :: aO K q4 8 (fun _ => none) :: aJ K q3 12 (fun _ => 0) :: aI K q2 12 (fun _ => 0) :: aI K q1 12 (fun _ => 0) :: oB h 1 [.ref q1, .ref q2, .ref q3, .int (-4), .int (-4), .ref q4, .ref q5, .null] :: X)) (Nat.le_of_ble_eq_true rfl) ⟨(Nat.le_of_ble_eq_true rfl), (Nat.le_of_ble_eq_true rfl)⟩ ⟨(Nat.le_of_ble_eq_true rfl), (Nat.le_of_ble_eq_true rfl)⟩ (fun q8 => ?_)
  show G E K 8 72 (aJ K q8 13 (fun _ => 0) :: oB q7 0 [.ref q8] :: aJ K q6 13 (fun _ => 0) :: oB q5 0 [.ref q6] :: aO K q4 8 (fun _ => none) :: aJ K q3 12 (fun _ => 0) :: aI K q2 12 (fun _ => 0) :: aI K q1 12 (fun _ => 0) :: oB h 1 [.ref q1, .ref q2, .ref q3, .int (-4), .int (-4), .ref q4, .ref q5, .null] :: X) [(0, .ref h)] 68 [.ref q7, .ref h]
  refine g_putF (Wd2 := (aJ K q8 13 (fun _ => 0) :: oB q7 0 [.ref q8] :: aJ K q6 13 (fun _ => 0) :: oB q5 0 [.ref q6] :: aO K q4 8 (fun _ => none) :: aJ K q3 12 (fun _ => 0) :: aI K q2 12 (fun _ => 0) :: aI K q1 12 (fun _ => 0) :: oB h 1 [.ref q1, .ref q2, .ref q3, .int (-4), .int (-4), .ref q4, .ref q5, .ref q7] :: X)) C I dX1_init_68 ff_X1_38 8 rfl rfl rfl (Nat.le_of_ble_eq_true rfl) rfl ?_
  refine g_iconst (v := 0) C dX1_init_71 (by decide) ?_
  refine g_istore_n (i := 1) (lv2 := [(0, .ref h), (1, .int 0)]) C dX1_init_72 rfl (by decide) rfl ?_
  refine g_iload_n (i := 1) C dX1_init_73 rfl rfl ?_
  refine g_bipush (v := 8) C dX1_init_74 (by decide) ?_
  refine g_icmp_ge (tgt := 98) C dX1_init_76 (by decide) (fun q => absurd q (by decide)) (fun _ => ?_)
  refine g_aload_n (i := 0) C dX1_init_79 rfl rfl ?_
  refine g_get C dX1_init_80 fl_X1_29 8 rfl rfl ?_
  refine g_iload_n (i := 1) C dX1_init_83 rfl rfl ?_
  refine g_new C dX1_init_84 cl_X1_27 nc_X0 (Nat.le_of_ble_eq_true rfl) (Nat.le_of_ble_eq_true rfl) (fun q9 => ?_)
  refine g_dup C dX1_init_87 rfl ?_
  refine g_callIN C I dX1_init_88 ln_X1_33 mfi_X0_init rfl (by decide +kernel) (kX0_init K q9 (aJ K q8 13 (fun _ => 0) :: oB q7 0 [.ref q8] :: aJ K q6 13 (fun _ => 0) :: oB q5 0 [.ref q6] :: aO K q4 8 (fun _ => none) :: aJ K q3 12 (fun _ => 0) :: aI K q2 12 (fun _ => 0) :: aI K q1 12 (fun _ => 0) :: oB h 1 [.ref q1, .ref q2, .ref q3, .int (-4), .int (-4), .ref q4, .ref q5, .ref q7] :: X)) (Nat.le_of_ble_eq_true rfl) ⟨(Nat.le_of_ble_eq_true rfl), (Nat.le_of_ble_eq_true rfl)⟩ ⟨(Nat.le_of_ble_eq_true rfl), (Nat.le_of_ble_eq_true rfl)⟩ (fun q10 => ?_)
  show G E K 10 86 (aJ K q10 13 (fun _ => 0) :: oB q9 0 [.ref q10] :: aJ K q8 13 (fun _ => 0) :: oB q7 0 [.ref q8] :: aJ K q6 13 (fun _ => 0) :: oB q5 0 [.ref q6] :: aO K q4 8 (fun _ => none) :: aJ K q3 12 (fun _ => 0) :: aI K q2 12 (fun _ => 0) :: aI K q1 12 (fun _ => 0) :: oB h 1 [.ref q1, .ref q2, .ref q3, .int (-4), .int (-4), .ref q4, .ref q5, .ref q7] :: X) [(0, .ref h), (1, .int 0)] 91 [.ref q9, .int 0, .ref q4]
  refine g_aast (Wd2 := (aJ K q10 13 (fun _ => 0) :: oB q9 0 [.ref q10] :: aJ K q8 13 (fun _ => 0) :: oB q7 0 [.ref q8] :: aJ K q6 13 (fun _ => 0) :: oB q5 0 [.ref q6] :: aO K q4 8 (va_up (fun _ => none) (0 : Int32).toNatClampNeg (some q9)) :: aJ K q3 12 (fun _ => 0) :: aI K q2 12 (fun _ => 0) :: aI K q1 12 (fun _ => 0) :: oB h 1 [.ref q1, .ref q2, .ref q3, .int (-4), .int (-4), .ref q4, .ref q5, .ref q7] :: X)) C dX1_init_91 6 1 rfl rfl (vp_in_nI (n := 0) (by decide) (by decide)) rfl ?_
  refine g_iinc (v := 1) (lv2 := [(0, .ref h), (1, .int 1)]) C dX1_init_92 rfl (by decide) (by decide) rfl ?_
  refine g_goto (tgt := 73) C dX1_init_95 (by decide) ?_
  refine g_iload_n (i := 1) C dX1_init_73 rfl rfl ?_
  refine g_bipush (v := 8) C dX1_init_74 (by decide) ?_
  refine g_icmp_ge (tgt := 98) C dX1_init_76 (by decide) (fun q => absurd q (by decide)) (fun _ => ?_)
  refine g_aload_n (i := 0) C dX1_init_79 rfl rfl ?_
  refine g_get C dX1_init_80 fl_X1_29 10 rfl rfl ?_
  refine g_iload_n (i := 1) C dX1_init_83 rfl rfl ?_
  refine g_new C dX1_init_84 cl_X1_27 nc_X0 (Nat.le_of_ble_eq_true rfl) (Nat.le_of_ble_eq_true rfl) (fun q11 => ?_)
  refine g_dup C dX1_init_87 rfl ?_
  refine g_callIN C I dX1_init_88 ln_X1_33 mfi_X0_init rfl (by decide +kernel) (kX0_init K q11 (aJ K q10 13 (fun _ => 0) :: oB q9 0 [.ref q10] :: aJ K q8 13 (fun _ => 0) :: oB q7 0 [.ref q8] :: aJ K q6 13 (fun _ => 0) :: oB q5 0 [.ref q6] :: aO K q4 8 (va_up (fun _ => none) (0 : Int32).toNatClampNeg (some q9)) :: aJ K q3 12 (fun _ => 0) :: aI K q2 12 (fun _ => 0) :: aI K q1 12 (fun _ => 0) :: oB h 1 [.ref q1, .ref q2, .ref q3, .int (-4), .int (-4), .ref q4, .ref q5, .ref q7] :: X)) (Nat.le_of_ble_eq_true rfl) ⟨(Nat.le_of_ble_eq_true rfl), (Nat.le_of_ble_eq_true rfl)⟩ ⟨(Nat.le_of_ble_eq_true rfl), (Nat.le_of_ble_eq_true rfl)⟩ (fun q12 => ?_)
  show G E K 12 100 (aJ K q12 13 (fun _ => 0) :: oB q11 0 [.ref q12] :: aJ K q10 13 (fun _ => 0) :: oB q9 0 [.ref q10] :: aJ K q8 13 (fun _ => 0) :: oB q7 0 [.ref q8] :: aJ K q6 13 (fun _ => 0) :: oB q5 0 [.ref q6] :: aO K q4 8 (va_up (fun _ => none) (0 : Int32).toNatClampNeg (some q9)) :: aJ K q3 12 (fun _ => 0) :: aI K q2 12 (fun _ => 0) :: aI K q1 12 (fun _ => 0) :: oB h 1 [.ref q1, .ref q2, .ref q3, .int (-4), .int (-4), .ref q4, .ref q5, .ref q7] :: X) [(0, .ref h), (1, .int 1)] 91 [.ref q11, .int 1, .ref q4]
  refine g_aast (Wd2 := (aJ K q12 13 (fun _ => 0) :: oB q11 0 [.ref q12] :: aJ K q10 13 (fun _ => 0) :: oB q9 0 [.ref q10] :: aJ K q8 13 (fun _ => 0) :: oB q7 0 [.ref q8] :: aJ K q6 13 (fun _ => 0) :: oB q5 0 [.ref q6] :: aO K q4 8 (va_up (va_up (fun _ => none) (0 : Int32).toNatClampNeg (some q9)) (1 : Int32).toNatClampNeg (some q11)) :: aJ K q3 12 (fun _ => 0) :: aI K q2 12 (fun _ => 0) :: aI K q1 12 (fun _ => 0) :: oB h 1 [.ref q1, .ref q2, .ref q3, .int (-4), .int (-4), .ref q4, .ref q5, .ref q7] :: X)) C dX1_init_91 8 1 rfl rfl (vp_in_nI (n := 1) (by decide) (by decide)) rfl ?_
  refine g_iinc (v := 2) (lv2 := [(0, .ref h), (1, .int 2)]) C dX1_init_92 rfl (by decide) (by decide) rfl ?_
  refine g_goto (tgt := 73) C dX1_init_95 (by decide) ?_
  refine g_iload_n (i := 1) C dX1_init_73 rfl rfl ?_
  refine g_bipush (v := 8) C dX1_init_74 (by decide) ?_
  refine g_icmp_ge (tgt := 98) C dX1_init_76 (by decide) (fun q => absurd q (by decide)) (fun _ => ?_)
  refine g_aload_n (i := 0) C dX1_init_79 rfl rfl ?_
  refine g_get C dX1_init_80 fl_X1_29 12 rfl rfl ?_
  refine g_iload_n (i := 1) C dX1_init_83 rfl rfl ?_
  refine g_new C dX1_init_84 cl_X1_27 nc_X0 (Nat.le_of_ble_eq_true rfl) (Nat.le_of_ble_eq_true rfl) (fun q13 => ?_)
  refine g_dup C dX1_init_87 rfl ?_
  refine g_callIN C I dX1_init_88 ln_X1_33 mfi_X0_init rfl (by decide +kernel) (kX0_init K q13 (aJ K q12 13 (fun _ => 0) :: oB q11 0 [.ref q12] :: aJ K q10 13 (fun _ => 0) :: oB q9 0 [.ref q10] :: aJ K q8 13 (fun _ => 0) :: oB q7 0 [.ref q8] :: aJ K q6 13 (fun _ => 0) :: oB q5 0 [.ref q6] :: aO K q4 8 (va_up (va_up (fun _ => none) (0 : Int32).toNatClampNeg (some q9)) (1 : Int32).toNatClampNeg (some q11)) :: aJ K q3 12 (fun _ => 0) :: aI K q2 12 (fun _ => 0) :: aI K q1 12 (fun _ => 0) :: oB h 1 [.ref q1, .ref q2, .ref q3, .int (-4), .int (-4), .ref q4, .ref q5, .ref q7] :: X)) (Nat.le_of_ble_eq_true rfl) ⟨(Nat.le_of_ble_eq_true rfl), (Nat.le_of_ble_eq_true rfl)⟩ ⟨(Nat.le_of_ble_eq_true rfl), (Nat.le_of_ble_eq_true rfl)⟩ (fun q14 => ?_)
  show G E K 14 114 (aJ K q14 13 (fun _ => 0) :: oB q13 0 [.ref q14] :: aJ K q12 13 (fun _ => 0) :: oB q11 0 [.ref q12] :: aJ K q10 13 (fun _ => 0) :: oB q9 0 [.ref q10] :: aJ K q8 13 (fun _ => 0) :: oB q7 0 [.ref q8] :: aJ K q6 13 (fun _ => 0) :: oB q5 0 [.ref q6] :: aO K q4 8 (va_up (va_up (fun _ => none) (0 : Int32).toNatClampNeg (some q9)) (1 : Int32).toNatClampNeg (some q11)) :: aJ K q3 12 (fun _ => 0) :: aI K q2 12 (fun _ => 0) :: aI K q1 12 (fun _ => 0) :: oB h 1 [.ref q1, .ref q2, .ref q3, .int (-4), .int (-4), .ref q4, .ref q5, .ref q7] :: X) [(0, .ref h), (1, .int 2)] 91 [.ref q13, .int 2, .ref q4]
  refine g_aast (Wd2 := (aJ K q14 13 (fun _ => 0) :: oB q13 0 [.ref q14] :: aJ K q12 13 (fun _ => 0) :: oB q11 0 [.ref q12] :: aJ K q10 13 (fun _ => 0) :: oB q9 0 [.ref q10] :: aJ K q8 13 (fun _ => 0) :: oB q7 0 [.ref q8] :: aJ K q6 13 (fun _ => 0) :: oB q5 0 [.ref q6] :: aO K q4 8 (va_up (va_up (va_up (fun _ => none) (0 : Int32).toNatClampNeg (some q9)) (1 : Int32).toNatClampNeg (some q11)) (2 : Int32).toNatClampNeg (some q13)) :: aJ K q3 12 (fun _ => 0) :: aI K q2 12 (fun _ => 0) :: aI K q1 12 (fun _ => 0) :: oB h 1 [.ref q1, .ref q2, .ref q3, .int (-4), .int (-4), .ref q4, .ref q5, .ref q7] :: X)) C dX1_init_91 10 1 rfl rfl (vp_in_nI (n := 2) (by decide) (by decide)) rfl ?_
  refine g_iinc (v := 3) (lv2 := [(0, .ref h), (1, .int 3)]) C dX1_init_92 rfl (by decide) (by decide) rfl ?_
  refine g_goto (tgt := 73) C dX1_init_95 (by decide) ?_
  refine g_iload_n (i := 1) C dX1_init_73 rfl rfl ?_
  refine g_bipush (v := 8) C dX1_init_74 (by decide) ?_
  refine g_icmp_ge (tgt := 98) C dX1_init_76 (by decide) (fun q => absurd q (by decide)) (fun _ => ?_)
  refine g_aload_n (i := 0) C dX1_init_79 rfl rfl ?_
  refine g_get C dX1_init_80 fl_X1_29 14 rfl rfl ?_
  refine g_iload_n (i := 1) C dX1_init_83 rfl rfl ?_
  refine g_new C dX1_init_84 cl_X1_27 nc_X0 (Nat.le_of_ble_eq_true rfl) (Nat.le_of_ble_eq_true rfl) (fun q15 => ?_)
  refine g_dup C dX1_init_87 rfl ?_
  refine g_callIN C I dX1_init_88 ln_X1_33 mfi_X0_init rfl (by decide +kernel) (kX0_init K q15 (aJ K q14 13 (fun _ => 0) :: oB q13 0 [.ref q14] :: aJ K q12 13 (fun _ => 0) :: oB q11 0 [.ref q12] :: aJ K q10 13 (fun _ => 0) :: oB q9 0 [.ref q10] :: aJ K q8 13 (fun _ => 0) :: oB q7 0 [.ref q8] :: aJ K q6 13 (fun _ => 0) :: oB q5 0 [.ref q6] :: aO K q4 8 (va_up (va_up (va_up (fun _ => none) (0 : Int32).toNatClampNeg (some q9)) (1 : Int32).toNatClampNeg (some q11)) (2 : Int32).toNatClampNeg (some q13)) :: aJ K q3 12 (fun _ => 0) :: aI K q2 12 (fun _ => 0) :: aI K q1 12 (fun _ => 0) :: oB h 1 [.ref q1, .ref q2, .ref q3, .int (-4), .int (-4), .ref q4, .ref q5, .ref q7] :: X)) (Nat.le_of_ble_eq_true rfl) ⟨(Nat.le_of_ble_eq_true rfl), (Nat.le_of_ble_eq_true rfl)⟩ ⟨(Nat.le_of_ble_eq_true rfl), (Nat.le_of_ble_eq_true rfl)⟩ (fun q16 => ?_)
  show G E K 16 128 (aJ K q16 13 (fun _ => 0) :: oB q15 0 [.ref q16] :: aJ K q14 13 (fun _ => 0) :: oB q13 0 [.ref q14] :: aJ K q12 13 (fun _ => 0) :: oB q11 0 [.ref q12] :: aJ K q10 13 (fun _ => 0) :: oB q9 0 [.ref q10] :: aJ K q8 13 (fun _ => 0) :: oB q7 0 [.ref q8] :: aJ K q6 13 (fun _ => 0) :: oB q5 0 [.ref q6] :: aO K q4 8 (va_up (va_up (va_up (fun _ => none) (0 : Int32).toNatClampNeg (some q9)) (1 : Int32).toNatClampNeg (some q11)) (2 : Int32).toNatClampNeg (some q13)) :: aJ K q3 12 (fun _ => 0) :: aI K q2 12 (fun _ => 0) :: aI K q1 12 (fun _ => 0) :: oB h 1 [.ref q1, .ref q2, .ref q3, .int (-4), .int (-4), .ref q4, .ref q5, .ref q7] :: X) [(0, .ref h), (1, .int 3)] 91 [.ref q15, .int 3, .ref q4]
  refine g_aast (Wd2 := (aJ K q16 13 (fun _ => 0) :: oB q15 0 [.ref q16] :: aJ K q14 13 (fun _ => 0) :: oB q13 0 [.ref q14] :: aJ K q12 13 (fun _ => 0) :: oB q11 0 [.ref q12] :: aJ K q10 13 (fun _ => 0) :: oB q9 0 [.ref q10] :: aJ K q8 13 (fun _ => 0) :: oB q7 0 [.ref q8] :: aJ K q6 13 (fun _ => 0) :: oB q5 0 [.ref q6] :: aO K q4 8 (va_up (va_up (va_up (va_up (fun _ => none) (0 : Int32).toNatClampNeg (some q9)) (1 : Int32).toNatClampNeg (some q11)) (2 : Int32).toNatClampNeg (some q13)) (3 : Int32).toNatClampNeg (some q15)) :: aJ K q3 12 (fun _ => 0) :: aI K q2 12 (fun _ => 0) :: aI K q1 12 (fun _ => 0) :: oB h 1 [.ref q1, .ref q2, .ref q3, .int (-4), .int (-4), .ref q4, .ref q5, .ref q7] :: X)) C dX1_init_91 12 1 rfl rfl (vp_in_nI (n := 3) (by decide) (by decide)) rfl ?_
  refine g_iinc (v := 4) (lv2 := [(0, .ref h), (1, .int 4)]) C dX1_init_92 rfl (by decide) (by decide) rfl ?_
  refine g_goto (tgt := 73) C dX1_init_95 (by decide) ?_
  refine g_iload_n (i := 1) C dX1_init_73 rfl rfl ?_
  refine g_bipush (v := 8) C dX1_init_74 (by decide) ?_
  refine g_icmp_ge (tgt := 98) C dX1_init_76 (by decide) (fun q => absurd q (by decide)) (fun _ => ?_)
  refine g_aload_n (i := 0) C dX1_init_79 rfl rfl ?_
  refine g_get C dX1_init_80 fl_X1_29 16 rfl rfl ?_
  refine g_iload_n (i := 1) C dX1_init_83 rfl rfl ?_
  refine g_new C dX1_init_84 cl_X1_27 nc_X0 (Nat.le_of_ble_eq_true rfl) (Nat.le_of_ble_eq_true rfl) (fun q17 => ?_)
  refine g_dup C dX1_init_87 rfl ?_
  refine g_callIN C I dX1_init_88 ln_X1_33 mfi_X0_init rfl (by decide +kernel) (kX0_init K q17 (aJ K q16 13 (fun _ => 0) :: oB q15 0 [.ref q16] :: aJ K q14 13 (fun _ => 0) :: oB q13 0 [.ref q14] :: aJ K q12 13 (fun _ => 0) :: oB q11 0 [.ref q12] :: aJ K q10 13 (fun _ => 0) :: oB q9 0 [.ref q10] :: aJ K q8 13 (fun _ => 0) :: oB q7 0 [.ref q8] :: aJ K q6 13 (fun _ => 0) :: oB q5 0 [.ref q6] :: aO K q4 8 (va_up (va_up (va_up (va_up (fun _ => none) (0 : Int32).toNatClampNeg (some q9)) (1 : Int32).toNatClampNeg (some q11)) (2 : Int32).toNatClampNeg (some q13)) (3 : Int32).toNatClampNeg (some q15)) :: aJ K q3 12 (fun _ => 0) :: aI K q2 12 (fun _ => 0) :: aI K q1 12 (fun _ => 0) :: oB h 1 [.ref q1, .ref q2, .ref q3, .int (-4), .int (-4), .ref q4, .ref q5, .ref q7] :: X)) (Nat.le_of_ble_eq_true rfl) ⟨(Nat.le_of_ble_eq_true rfl), (Nat.le_of_ble_eq_true rfl)⟩ ⟨(Nat.le_of_ble_eq_true rfl), (Nat.le_of_ble_eq_true rfl)⟩ (fun q18 => ?_)
  show G E K 18 142 (aJ K q18 13 (fun _ => 0) :: oB q17 0 [.ref q18] :: aJ K q16 13 (fun _ => 0) :: oB q15 0 [.ref q16] :: aJ K q14 13 (fun _ => 0) :: oB q13 0 [.ref q14] :: aJ K q12 13 (fun _ => 0) :: oB q11 0 [.ref q12] :: aJ K q10 13 (fun _ => 0) :: oB q9 0 [.ref q10] :: aJ K q8 13 (fun _ => 0) :: oB q7 0 [.ref q8] :: aJ K q6 13 (fun _ => 0) :: oB q5 0 [.ref q6] :: aO K q4 8 (va_up (va_up (va_up (va_up (fun _ => none) (0 : Int32).toNatClampNeg (some q9)) (1 : Int32).toNatClampNeg (some q11)) (2 : Int32).toNatClampNeg (some q13)) (3 : Int32).toNatClampNeg (some q15)) :: aJ K q3 12 (fun _ => 0) :: aI K q2 12 (fun _ => 0) :: aI K q1 12 (fun _ => 0) :: oB h 1 [.ref q1, .ref q2, .ref q3, .int (-4), .int (-4), .ref q4, .ref q5, .ref q7] :: X) [(0, .ref h), (1, .int 4)] 91 [.ref q17, .int 4, .ref q4]
  refine g_aast (Wd2 := (aJ K q18 13 (fun _ => 0) :: oB q17 0 [.ref q18] :: aJ K q16 13 (fun _ => 0) :: oB q15 0 [.ref q16] :: aJ K q14 13 (fun _ => 0) :: oB q13 0 [.ref q14] :: aJ K q12 13 (fun _ => 0) :: oB q11 0 [.ref q12] :: aJ K q10 13 (fun _ => 0) :: oB q9 0 [.ref q10] :: aJ K q8 13 (fun _ => 0) :: oB q7 0 [.ref q8] :: aJ K q6 13 (fun _ => 0) :: oB q5 0 [.ref q6] :: aO K q4 8 (va_up (va_up (va_up (va_up (va_up (fun _ => none) (0 : Int32).toNatClampNeg (some q9)) (1 : Int32).toNatClampNeg (some q11)) (2 : Int32).toNatClampNeg (some q13)) (3 : Int32).toNatClampNeg (some q15)) (4 : Int32).toNatClampNeg (some q17)) :: aJ K q3 12 (fun _ => 0) :: aI K q2 12 (fun _ => 0) :: aI K q1 12 (fun _ => 0) :: oB h 1 [.ref q1, .ref q2, .ref q3, .int (-4), .int (-4), .ref q4, .ref q5, .ref q7] :: X)) C dX1_init_91 14 1 rfl rfl (vp_in_nI (n := 4) (by decide) (by decide)) rfl ?_
  refine g_iinc (v := 5) (lv2 := [(0, .ref h), (1, .int 5)]) C dX1_init_92 rfl (by decide) (by decide) rfl ?_
  refine g_goto (tgt := 73) C dX1_init_95 (by decide) ?_
  refine g_iload_n (i := 1) C dX1_init_73 rfl rfl ?_
  refine g_bipush (v := 8) C dX1_init_74 (by decide) ?_
  refine g_icmp_ge (tgt := 98) C dX1_init_76 (by decide) (fun q => absurd q (by decide)) (fun _ => ?_)
  refine g_aload_n (i := 0) C dX1_init_79 rfl rfl ?_
  refine g_get C dX1_init_80 fl_X1_29 18 rfl rfl ?_
  refine g_iload_n (i := 1) C dX1_init_83 rfl rfl ?_
  refine g_new C dX1_init_84 cl_X1_27 nc_X0 (Nat.le_of_ble_eq_true rfl) (Nat.le_of_ble_eq_true rfl) (fun q19 => ?_)
  refine g_dup C dX1_init_87 rfl ?_
  refine g_callIN C I dX1_init_88 ln_X1_33 mfi_X0_init rfl (by decide +kernel) (kX0_init K q19 (aJ K q18 13 (fun _ => 0) :: oB q17 0 [.ref q18] :: aJ K q16 13 (fun _ => 0) :: oB q15 0 [.ref q16] :: aJ K q14 13 (fun _ => 0) :: oB q13 0 [.ref q14] :: aJ K q12 13 (fun _ => 0) :: oB q11 0 [.ref q12] :: aJ K q10 13 (fun _ => 0) :: oB q9 0 [.ref q10] :: aJ K q8 13 (fun _ => 0) :: oB q7 0 [.ref q8] :: aJ K q6 13 (fun _ => 0) :: oB q5 0 [.ref q6] :: aO K q4 8 (va_up (va_up (va_up (va_up (va_up (fun _ => none) (0 : Int32).toNatClampNeg (some q9)) (1 : Int32).toNatClampNeg (some q11)) (2 : Int32).toNatClampNeg (some q13)) (3 : Int32).toNatClampNeg (some q15)) (4 : Int32).toNatClampNeg (some q17)) :: aJ K q3 12 (fun _ => 0) :: aI K q2 12 (fun _ => 0) :: aI K q1 12 (fun _ => 0) :: oB h 1 [.ref q1, .ref q2, .ref q3, .int (-4), .int (-4), .ref q4, .ref q5, .ref q7] :: X)) (Nat.le_of_ble_eq_true rfl) ⟨(Nat.le_of_ble_eq_true rfl), (Nat.le_of_ble_eq_true rfl)⟩ ⟨(Nat.le_of_ble_eq_true rfl), (Nat.le_of_ble_eq_true rfl)⟩ (fun q20 => ?_)
  show G E K 20 156 (aJ K q20 13 (fun _ => 0) :: oB q19 0 [.ref q20] :: aJ K q18 13 (fun _ => 0) :: oB q17 0 [.ref q18] :: aJ K q16 13 (fun _ => 0) :: oB q15 0 [.ref q16] :: aJ K q14 13 (fun _ => 0) :: oB q13 0 [.ref q14] :: aJ K q12 13 (fun _ => 0) :: oB q11 0 [.ref q12] :: aJ K q10 13 (fun _ => 0) :: oB q9 0 [.ref q10] :: aJ K q8 13 (fun _ => 0) :: oB q7 0 [.ref q8] :: aJ K q6 13 (fun _ => 0) :: oB q5 0 [.ref q6] :: aO K q4 8 (va_up (va_up (va_up (va_up (va_up (fun _ => none) (0 : Int32).toNatClampNeg (some q9)) (1 : Int32).toNatClampNeg (some q11)) (2 : Int32).toNatClampNeg (some q13)) (3 : Int32).toNatClampNeg (some q15)) (4 : Int32).toNatClampNeg (some q17)) :: aJ K q3 12 (fun _ => 0) :: aI K q2 12 (fun _ => 0) :: aI K q1 12 (fun _ => 0) :: oB h 1 [.ref q1, .ref q2, .ref q3, .int (-4), .int (-4), .ref q4, .ref q5, .ref q7] :: X) [(0, .ref h), (1, .int 5)] 91 [.ref q19, .int 5, .ref q4]
  refine g_aast (Wd2 := (aJ K q20 13 (fun _ => 0) :: oB q19 0 [.ref q20] :: aJ K q18 13 (fun _ => 0) :: oB q17 0 [.ref q18] :: aJ K q16 13 (fun _ => 0) :: oB q15 0 [.ref q16] :: aJ K q14 13 (fun _ => 0) :: oB q13 0 [.ref q14] :: aJ K q12 13 (fun _ => 0) :: oB q11 0 [.ref q12] :: aJ K q10 13 (fun _ => 0) :: oB q9 0 [.ref q10] :: aJ K q8 13 (fun _ => 0) :: oB q7 0 [.ref q8] :: aJ K q6 13 (fun _ => 0) :: oB q5 0 [.ref q6] :: aO K q4 8 (va_up (va_up (va_up (va_up (va_up (va_up (fun _ => none) (0 : Int32).toNatClampNeg (some q9)) (1 : Int32).toNatClampNeg (some q11)) (2 : Int32).toNatClampNeg (some q13)) (3 : Int32).toNatClampNeg (some q15)) (4 : Int32).toNatClampNeg (some q17)) (5 : Int32).toNatClampNeg (some q19)) :: aJ K q3 12 (fun _ => 0) :: aI K q2 12 (fun _ => 0) :: aI K q1 12 (fun _ => 0) :: oB h 1 [.ref q1, .ref q2, .ref q3, .int (-4), .int (-4), .ref q4, .ref q5, .ref q7] :: X)) C dX1_init_91 16 1 rfl rfl (vp_in_nI (n := 5) (by decide) (by decide)) rfl ?_
  refine g_iinc (v := 6) (lv2 := [(0, .ref h), (1, .int 6)]) C dX1_init_92 rfl (by decide) (by decide) rfl ?_
  refine g_goto (tgt := 73) C dX1_init_95 (by decide) ?_
  refine g_iload_n (i := 1) C dX1_init_73 rfl rfl ?_
  refine g_bipush (v := 8) C dX1_init_74 (by decide) ?_
  refine g_icmp_ge (tgt := 98) C dX1_init_76 (by decide) (fun q => absurd q (by decide)) (fun _ => ?_)
  refine g_aload_n (i := 0) C dX1_init_79 rfl rfl ?_
  refine g_get C dX1_init_80 fl_X1_29 20 rfl rfl ?_
  refine g_iload_n (i := 1) C dX1_init_83 rfl rfl ?_
  refine g_new C dX1_init_84 cl_X1_27 nc_X0 (Nat.le_of_ble_eq_true rfl) (Nat.le_of_ble_eq_true rfl) (fun q21 => ?_)
  refine g_dup C dX1_init_87 rfl ?_
  refine g_callIN C I dX1_init_88 ln_X1_33 mfi_X0_init rfl (by decide +kernel) (kX0_init K q21 (aJ K q20 13 (fun _ => 0) :: oB q19 0 [.ref q20] :: aJ K q18 13 (fun _ => 0) :: oB q17 0 [.ref q18] :: aJ K q16 13 (fun _ => 0) :: oB q15 0 [.ref q16] :: aJ K q14 13 (fun _ => 0) :: oB q13 0 [.ref q14] :: aJ K q12 13 (fun _ => 0) :: oB q11 0 [.ref q12] :: aJ K q10 13 (fun _ => 0) :: oB q9 0 [.ref q10] :: aJ K q8 13 (fun _ => 0) :: oB q7 0 [.ref q8] :: aJ K q6 13 (fun _ => 0) :: oB q5 0 [.ref q6] :: aO K q4 8 (va_up (va_up (va_up (va_up (va_up (va_up (fun _ => none) (0 : Int32).toNatClampNeg (some q9)) (1 : Int32).toNatClampNeg (some q11)) (2 : Int32).toNatClampNeg (some q13)) (3 : Int32).toNatClampNeg (some q15)) (4 : Int32).toNatClampNeg (some q17)) (5 : Int32).toNatClampNeg (some q19)) :: aJ K q3 12 (fun _ => 0) :: aI K q2 12 (fun _ => 0) :: aI K q1 12 (fun _ => 0) :: oB h 1 [.ref q1, .ref q2, .ref q3, .int (-4), .int (-4), .ref q4, .ref q5, .ref q7] :: X)) (Nat.le_of_ble_eq_true rfl) ⟨(Nat.le_of_ble_eq_true rfl), (Nat.le_of_ble_eq_true rfl)⟩ ⟨(Nat.le_of_ble_eq_true rfl), (Nat.le_of_ble_eq_true rfl)⟩ (fun q22 => ?_)
  show G E K 22 170 (aJ K q22 13 (fun _ => 0) :: oB q21 0 [.ref q22] :: aJ K q20 13 (fun _ => 0) :: oB q19 0 [.ref q20] :: aJ K q18 13 (fun _ => 0) :: oB q17 0 [.ref q18] :: aJ K q16 13 (fun _ => 0) :: oB q15 0 [.ref q16] :: aJ K q14 13 (fun _ => 0) :: oB q13 0 [.ref q14] :: aJ K q12 13 (fun _ => 0) :: oB q11 0 [.ref q12] :: aJ K q10 13 (fun _ => 0) :: oB q9 0 [.ref q10] :: aJ K q8 13 (fun _ => 0) :: oB q7 0 [.ref q8] :: aJ K q6 13 (fun _ => 0) :: oB q5 0 [.ref q6] :: aO K q4 8 (va_up (va_up (va_up (va_up (va_up (va_up (fun _ => none) (0 : Int32).toNatClampNeg (some q9)) (1 : Int32).toNatClampNeg (some q11)) (2 : Int32).toNatClampNeg (some q13)) (3 : Int32).toNatClampNeg (some q15)) (4 : Int32).toNatClampNeg (some q17)) (5 : Int32).toNatClampNeg (some q19)) :: aJ K q3 12 (fun _ => 0) :: aI K q2 12 (fun _ => 0) :: aI K q1 12 (fun _ => 0) :: oB h 1 [.ref q1, .ref q2, .ref q3, .int (-4), .int (-4), .ref q4, .ref q5, .ref q7] :: X) [(0, .ref h), (1, .int 6)] 91 [.ref q21, .int 6, .ref q4]
  refine g_aast (Wd2 := (aJ K q22 13 (fun _ => 0) :: oB q21 0 [.ref q22] :: aJ K q20 13 (fun _ => 0) :: oB q19 0 [.ref q20] :: aJ K q18 13 (fun _ => 0) :: oB q17 0 [.ref q18] :: aJ K q16 13 (fun _ => 0) :: oB q15 0 [.ref q16] :: aJ K q14 13 (fun _ => 0) :: oB q13 0 [.ref q14] :: aJ K q12 13 (fun _ => 0) :: oB q11 0 [.ref q12] :: aJ K q10 13 (fun _ => 0) :: oB q9 0 [.ref q10] :: aJ K q8 13 (fun _ => 0) :: oB q7 0 [.ref q8] :: aJ K q6 13 (fun _ => 0) :: oB q5 0 [.ref q6] :: aO K q4 8 (va_up (va_up (va_up (va_up (va_up (va_up (va_up (fun _ => none) (0 : Int32).toNatClampNeg (some q9)) (1 : Int32).toNatClampNeg (some q11)) (2 : Int32).toNatClampNeg (some q13)) (3 : Int32).toNatClampNeg (some q15)) (4 : Int32).toNatClampNeg (some q17)) (5 : Int32).toNatClampNeg (some q19)) (6 : Int32).toNatClampNeg (some q21)) :: aJ K q3 12 (fun _ => 0) :: aI K q2 12 (fun _ => 0) :: aI K q1 12 (fun _ => 0) :: oB h 1 [.ref q1, .ref q2, .ref q3, .int (-4), .int (-4), .ref q4, .ref q5, .ref q7] :: X)) C dX1_init_91 18 1 rfl rfl (vp_in_nI (n := 6) (by decide) (by decide)) rfl ?_
  refine g_iinc (v := 7) (lv2 := [(0, .ref h), (1, .int 7)]) C dX1_init_92 rfl (by decide) (by decide) rfl ?_
  refine g_goto (tgt := 73) C dX1_init_95 (by decide) ?_
  refine g_iload_n (i := 1) C dX1_init_73 rfl rfl ?_
  refine g_bipush (v := 8) C dX1_init_74 (by decide) ?_
  refine g_icmp_ge (tgt := 98) C dX1_init_76 (by decide) (fun q => absurd q (by decide)) (fun _ => ?_)
  refine g_aload_n (i := 0) C dX1_init_79 rfl rfl ?_
  refine g_get C dX1_init_80 fl_X1_29 22 rfl rfl ?_
  refine g_iload_n (i := 1) C dX1_init_83 rfl rfl ?_
  refine g_new C dX1_init_84 cl_X1_27 nc_X0 (Nat.le_of_ble_eq_true rfl) (Nat.le_of_ble_eq_true rfl) (fun q23 => ?_)
  refine g_dup C dX1_init_87 rfl ?_
  refine g_callIN C I dX1_init_88 ln_X1_33 mfi_X0_init rfl (by decide +kernel) (kX0_init K q23 (aJ K q22 13 (fun _ => 0) :: oB q21 0 [.ref q22] :: aJ K q20 13 (fun _ => 0) :: oB q19 0 [.ref q20] :: aJ K q18 13 (fun _ => 0) :: oB q17 0 [.ref q18] :: aJ K q16 13 (fun _ => 0) :: oB q15 0 [.ref q16] :: aJ K q14 13 (fun _ => 0) :: oB q13 0 [.ref q14] :: aJ K q12 13 (fun _ => 0) :: oB q11 0 [.ref q12] :: aJ K q10 13 (fun _ => 0) :: oB q9 0 [.ref q10] :: aJ K q8 13 (fun _ => 0) :: oB q7 0 [.ref q8] :: aJ K q6 13 (fun _ => 0) :: oB q5 0 [.ref q6] :: aO K q4 8 (va_up (va_up (va_up (va_up (va_up (va_up (va_up (fun _ => none) (0 : Int32).toNatClampNeg (some q9)) (1 : Int32).toNatClampNeg (some q11)) (2 : Int32).toNatClampNeg (some q13)) (3 : Int32).toNatClampNeg (some q15)) (4 : Int32).toNatClampNeg (some q17)) (5 : Int32).toNatClampNeg (some q19)) (6 : Int32).toNatClampNeg (some q21)) :: aJ K q3 12 (fun _ => 0) :: aI K q2 12 (fun _ => 0) :: aI K q1 12 (fun _ => 0) :: oB h 1 [.ref q1, .ref q2, .ref q3, .int (-4), .int (-4), .ref q4, .ref q5, .ref q7] :: X)) (Nat.le_of_ble_eq_true rfl) ⟨(Nat.le_of_ble_eq_true rfl), (Nat.le_of_ble_eq_true rfl)⟩ ⟨(Nat.le_of_ble_eq_true rfl), (Nat.le_of_ble_eq_true rfl)⟩ (fun q24 => ?_)
  show G E K 24 184 (aJ K q24 13 (fun _ => 0) :: oB q23 0 [.ref q24] :: aJ K q22 13 (fun _ => 0) :: oB q21 0 [.ref q22] :: aJ K q20 13 (fun _ => 0) :: oB q19 0 [.ref q20] :: aJ K q18 13 (fun _ => 0) :: oB q17 0 [.ref q18] :: aJ K q16 13 (fun _ => 0) :: oB q15 0 [.ref q16] :: aJ K q14 13 (fun _ => 0) :: oB q13 0 [.ref q14] :: aJ K q12 13 (fun _ => 0) :: oB q11 0 [.ref q12] :: aJ K q10 13 (fun _ => 0) :: oB q9 0 [.ref q10] :: aJ K q8 13 (fun _ => 0) :: oB q7 0 [.ref q8] :: aJ K q6 13 (fun _ => 0) :: oB q5 0 [.ref q6] :: aO K q4 8 (va_up (va_up (va_up (va_up (va_up (va_up (va_up (fun _ => none) (0 : Int32).toNatClampNeg (some q9)) (1 : Int32).toNatClampNeg (some q11)) (2 : Int32).toNatClampNeg (some q13)) (3 : Int32).toNatClampNeg (some q15)) (4 : Int32).toNatClampNeg (some q17)) (5 : Int32).toNatClampNeg (some q19)) (6 : Int32).toNatClampNeg (some q21)) :: aJ K q3 12 (fun _ => 0) :: aI K q2 12 (fun _ => 0) :: aI K q1 12 (fun _ => 0) :: oB h 1 [.ref q1, .ref q2, .ref q3, .int (-4), .int (-4), .ref q4, .ref q5, .ref q7] :: X) [(0, .ref h), (1, .int 7)] 91 [.ref q23, .int 7, .ref q4]
  refine g_aast (Wd2 := (aJ K q24 13 (fun _ => 0) :: oB q23 0 [.ref q24] :: aJ K q22 13 (fun _ => 0) :: oB q21 0 [.ref q22] :: aJ K q20 13 (fun _ => 0) :: oB q19 0 [.ref q20] :: aJ K q18 13 (fun _ => 0) :: oB q17 0 [.ref q18] :: aJ K q16 13 (fun _ => 0) :: oB q15 0 [.ref q16] :: aJ K q14 13 (fun _ => 0) :: oB q13 0 [.ref q14] :: aJ K q12 13 (fun _ => 0) :: oB q11 0 [.ref q12] :: aJ K q10 13 (fun _ => 0) :: oB q9 0 [.ref q10] :: aJ K q8 13 (fun _ => 0) :: oB q7 0 [.ref q8] :: aJ K q6 13 (fun _ => 0) :: oB q5 0 [.ref q6] :: aO K q4 8 (va_up (va_up (va_up (va_up (va_up (va_up (va_up (va_up (fun _ => none) (0 : Int32).toNatClampNeg (some q9)) (1 : Int32).toNatClampNeg (some q11)) (2 : Int32).toNatClampNeg (some q13)) (3 : Int32).toNatClampNeg (some q15)) (4 : Int32).toNatClampNeg (some q17)) (5 : Int32).toNatClampNeg (some q19)) (6 : Int32).toNatClampNeg (some q21)) (7 : Int32).toNatClampNeg (some q23)) :: aJ K q3 12 (fun _ => 0) :: aI K q2 12 (fun _ => 0) :: aI K q1 12 (fun _ => 0) :: oB h 1 [.ref q1, .ref q2, .ref q3, .int (-4), .int (-4), .ref q4, .ref q5, .ref q7] :: X)) C dX1_init_91 20 1 rfl rfl (vp_in_nI (n := 7) (by decide) (by decide)) rfl ?_
  refine g_iinc (v := 8) (lv2 := [(0, .ref h), (1, .int 8)]) C dX1_init_92 rfl (by decide) (by decide) rfl ?_
  refine g_goto (tgt := 73) C dX1_init_95 (by decide) ?_
  refine g_iload_n (i := 1) C dX1_init_73 rfl rfl ?_
  refine g_bipush (v := 8) C dX1_init_74 (by decide) ?_
  refine g_icmp_ge (tgt := 98) C dX1_init_76 (by decide) (fun _ => ?_) (fun q => absurd (by decide) q)
  refine g_part (L1 := [aJ K q24 13 (fun _ => 0), oB q23 0 [.ref q24], aJ K q22 13 (fun _ => 0), oB q21 0 [.ref q22], aJ K q20 13 (fun _ => 0), oB q19 0 [.ref q20], aJ K q18 13 (fun _ => 0), oB q17 0 [.ref q18], aJ K q16 13 (fun _ => 0), oB q15 0 [.ref q16], aJ K q14 13 (fun _ => 0), oB q13 0 [.ref q14], aJ K q12 13 (fun _ => 0), oB q11 0 [.ref q12], aJ K q10 13 (fun _ => 0), oB q9 0 [.ref q10], aJ K q8 13 (fun _ => 0), oB q7 0 [.ref q8], aJ K q6 13 (fun _ => 0), oB q5 0 [.ref q6], aO K q4 8 (va_up (va_up (va_up (va_up (va_up (va_up (va_up (va_up (fun _ => none) (0 : Int32).toNatClampNeg (some q9)) (1 : Int32).toNatClampNeg (some q11)) (2 : Int32).toNatClampNeg (some q13)) (3 : Int32).toNatClampNeg (some q15)) (4 : Int32).toNatClampNeg (some q17)) (5 : Int32).toNatClampNeg (some q19)) (6 : Int32).toNatClampNeg (some q21)) (7 : Int32).toNatClampNeg (some q23)), aJ K q3 12 (fun _ => 0), aI K q2 12 (fun _ => 0), aI K q1 12 (fun _ => 0), oB h 1 [.ref q1, .ref q2, .ref q3, .int (-4), .int (-4), .ref q4, .ref q5, .ref q7]]) (L2 := [oB h 1 [.ref q1, .ref q2, .ref q3, .int (-4), .int (-4), .ref q4, .ref q5, .ref q7], aI K q1 12 (fun _ => 0), aI K q2 12 (fun _ => 0), aJ K q3 12 (fun _ => 0), aO K q4 8 (va_up (va_up (va_up (va_up (va_up (va_up (va_up (va_up (fun _ => none) (0 : Int32).toNatClampNeg (some q9)) (1 : Int32).toNatClampNeg (some q11)) (2 : Int32).toNatClampNeg (some q13)) (3 : Int32).toNatClampNeg (some q15)) (4 : Int32).toNatClampNeg (some q17)) (5 : Int32).toNatClampNeg (some q19)) (6 : Int32).toNatClampNeg (some q21)) (7 : Int32).toNatClampNeg (some q23)), oB q9 0 [.ref q10], oB q11 0 [.ref q12], oB q13 0 [.ref q14], oB q15 0 [.ref q16], oB q17 0 [.ref q18], oB q19 0 [.ref q20], oB q21 0 [.ref q22], oB q23 0 [.ref q24], oB q5 0 [.ref q6], oB q7 0 [.ref q8], aJ K q10 13 (fun _ => 0), aJ K q12 13 (fun _ => 0), aJ K q14 13 (fun _ => 0), aJ K q16 13 (fun _ => 0), aJ K q18 13 (fun _ => 0), aJ K q20 13 (fun _ => 0), aJ K q22 13 (fun _ => 0), aJ K q24 13 (fun _ => 0), aJ K q6 13 (fun _ => 0), aJ K q8 13 (fun _ => 0)]) (X := X) [24, 23, 22, 21, 20, 15, 13, 11, 9, 7, 5, 3, 1, 19, 17, 14, 12, 10, 8, 6, 4, 2, 0, 18, 16] (by decide) rfl ?_
  refine hR _ _ _ (fun k => [h, q1, q2, q3, q4, q9, q11, q13, q15, q17, q19, q21, q23, q5, q7, q10, q12, q14, q16, q18, q20, q22, q24, q6, q8].getD k 0) dX1_init_98 ?_
  rw [so_eq (a0 := q9) (a1 := q11) (a2 := q13) (a3 := q15) (a4 := q17) (a5 := q19) (a6 := q21) (a7 := q23) (aH h (fun k => [h, q1, q2, q3, q4, q9, q11, q13, q15, q17, q19, q21, q23, q5, q7, q10, q12, q14, q16, q18, q20, q22, q24, q6, q8].getD k 0)) rfl rfl rfl rfl rfl rfl rfl rfl]
  rfl
