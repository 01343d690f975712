def LX (E : EnvT) (b L : Nat) (xs : Nat → Int32) : Prop := match E with
  | (_, _, _, _, s, _, _, _, _, _, _, A, _) => va_X b L xs s s.heap ∧ b < s.heap.size ∧ ¬ A b
theorem g_sld {E : EnvT} {K : KT} {cc : ByteArray} {own : String} {nL : Nat} {R : Room} {kc ks : Nat} {Wd : va_W} {lv : LV} {pc : Nat} {st : List Value} {b L : Nat} {xs : Nat → Int32} {i : Int32} (C : Ok E K cc own nL R) (hX : LX E b L xs) (d : decode cc pc = .ok (.iaload, 1)) (hin : vp_in i L) (k : G E K kc ks Wd lv (pc + 1) (.int (xs i.toNatClampNeg) :: st)) : G E K kc ks Wd lv pc (.int i :: .ref b :: st) := by
  obtain ⟨p, l, e, R1, s, m, args, below, meth, c, Q, A, nL1⟩ := E
  obtain ⟨hx, hb, hml, hown, hts, hN, hK, hA, rfl, rfl⟩ := C
  intro H locs ls hP hD hS hl
  exact va_sld hx hb hX.1 hX.2.1 hX.2.2 hS hin d (k H locs ls hP hD hS hl)
theorem g_slen {E : EnvT} {K : KT} {cc : ByteArray} {own : String} {nL : Nat} {R : Room} {kc ks : Nat} {Wd : va_W} {lv : LV} {pc : Nat} {st : List Value} {b L : Nat} {xs : Nat → Int32} (C : Ok E K cc own nL R) (hX : LX E b L xs) (d : decode cc pc = .ok (.arraylength, 1)) (k : G E K kc ks Wd lv (pc + 1) (.int (nI L) :: st)) : G E K kc ks Wd lv pc (.ref b :: st) := by
  obtain ⟨p, l, e, R1, s, m, args, below, meth, c, Q, A, nL1⟩ := E
  obtain ⟨hx, hb, hml, hown, hts, hN, hK, hA, rfl, rfl⟩ := C
  intro H locs ls hP hD hS hl
  exact va_slen hx hb hX.1 hX.2.1 hX.2.2 hS d (k H locs ls hP hD hS hl)
abbrev lvL (b x1 x2 : Nat) (i : Nat) : LV := [(0, .ref b), (1, .ref x1), (2, .ref x2), (3, .int (nI i))]
theorem g_arg {E : EnvT} {K : KT} {kc ks : Nat} {Wd : va_W} {pc : Nat} {st : List Value} {R : Room} {b L x1 x2 i : Nat} {xs : Nat → Int32} {n : Int} (j : Nat) (C : Ok E K cL_law RL 4 R) (hX : LX E b L xs) (hL : L ≤ 3072) (hi : i + 6 ≤ L) (hj : j < 6) (d1 : decode cL_law pc = .ok (.aload_n 0, 1)) (d2 : decode cL_law (pc + 1) = .ok (.iload_n 3, 1)) (d3 : decode cL_law (pc + 2) = .ok (.iconst n, 1)) (d4 : decode cL_law (pc + 3) = .ok (.iadd, 1)) (d5 : decode cL_law (pc + 4) = .ok (.iaload, 1)) (hn : Int32.ofInt n = nI j) (k : G E K kc ks Wd (lvL b x1 x2 i) (pc + 5) (.int (xs (i + j)) :: st)) : G E K kc ks Wd (lvL b x1 x2 i) pc st := by
  refine g_aload_n (i := 0) C d1 rfl rfl ?_
  refine g_iload_n (i := 3) C d2 rfl rfl ?_
  refine g_iconst C d3 hn ?_
  refine g_iadd C d4 ?_
  refine g_eqi (nI_add i j) ?_
  refine g_sld C hX d5 (vp_in_nI (by omega) (by omega)) ?_
  rw [nI_clamp (by omega)]
  exact k
theorem sw_eq {K : KT} {ad bd : Nat → Nat} {S : CS} {M : MSt} : cW K ad S (mW K bd M []) = cW K ad S [] ++ mW K bd M [] := by
  simp [cW, List.append_assoc]
theorem g_toM {E : EnvT} {K : KT} {kc ks : Nat} {lv : LV} {pc : Nat} {st : List Value} {ad bd : Nat → Nat} {S : CS} {M : MSt} (k : G E K kc ks (mW K bd M (cW K ad S [])) lv pc st) : G E K kc ks (cW K ad S (mW K bd M [])) lv pc st := g_eqw sw_eq (g_swap (L1 := cW K ad S []) (L2 := mW K bd M []) k)
theorem g_toC {E : EnvT} {K : KT} {kc ks : Nat} {lv : LV} {pc : Nat} {st : List Value} {ad bd : Nat → Nat} {S : CS} {M : MSt} (k : G E K kc ks (cW K ad S (mW K bd M [])) lv pc st) : G E K kc ks (mW K bd M (cW K ad S [])) lv pc st := g_swap (L1 := mW K bd M []) (L2 := cW K ad S []) (g_eqw sw_eq.symm k)
set_option maxHeartbeats 1000000 in
set_option maxRecDepth 100000 in
theorem law_row {E : EnvT} {K : KT} {ad bd : Nat → Nat} {S : CS} {M : MSt} {b L i : Nat} {xs : Nat → Int32} (C : Ok E K cL_law RL 4 room_1) (hX : LX E b L xs) (hL : L ≤ 3072) (hi : i + 6 ≤ L) (hR : Rel S M) (kk : ∀ (S2 : CS) (M2 : MSt), Rel S2 M2 → G E K 30 486 (cW K ad S2 (mW K bd M2 [])) (lvL b (ad 0) (bd 0) i) 901 []) : G E K 30 486 (cW K ad S (mW K bd M [])) (lvL b (ad 0) (bd 0) i) 124 [] := by
  refine g_aload_n (i := 1) C dL_law_124 rfl rfl ?_
  refine g_arg 1 C hX hL hi (by decide) dL_law_125 dL_law_126 dL_law_127 dL_law_128 dL_law_129 rfl ?_
  refine g_arg 2 C hX hL hi (by decide) dL_law_130 dL_law_131 dL_law_132 dL_law_133 dL_law_134 rfl ?_
  refine g_arg 3 C hX hL hi (by decide) dL_law_135 dL_law_136 dL_law_137 dL_law_138 dL_law_139 rfl ?_
  refine g_callV (av := [.int (xs (i + 1)), .int (xs (i + 2)), .int (xs (i + 3))]) C dL_law_140 ln_L_13 mf_X1_row 0 rfl rfl (kX1_row K ad S (mW K bd M []) (xs (i + 1)) (xs (i + 2)) (xs (i + 3)) ) rfl rfl (Nat.le_of_ble_eq_true rfl) ⟨(Nat.le_of_ble_eq_true rfl), (Nat.le_of_ble_eq_true rfl)⟩ ⟨(Nat.le_of_ble_eq_true rfl), (Nat.le_of_ble_eq_true rfl)⟩ (fun _ => ?_)
  refine g_toM ?_
  refine g_aload_n (i := 2) C dL_law_143 rfl rfl ?_
  refine g_arg 1 C hX hL hi (by decide) dL_law_144 dL_law_145 dL_law_146 dL_law_147 dL_law_148 rfl ?_
  refine g_arg 2 C hX hL hi (by decide) dL_law_149 dL_law_150 dL_law_151 dL_law_152 dL_law_153 rfl ?_
  refine g_arg 3 C hX hL hi (by decide) dL_law_154 dL_law_155 dL_law_156 dL_law_157 dL_law_158 rfl ?_
  refine g_callV (av := [.int (xs (i + 1)), .int (xs (i + 2)), .int (xs (i + 3))]) C dL_law_159 ln_L_17 mf_X2_row 0 rfl rfl (kX2_row K bd M (cW K ad (cRow S (xs (i + 1)) (xs (i + 2)) (xs (i + 3))).2 []) (xs (i + 1)) (xs (i + 2)) (xs (i + 3)) ) rfl rfl (Nat.le_of_ble_eq_true rfl) ⟨(Nat.le_of_ble_eq_true rfl), (Nat.le_of_ble_eq_true rfl)⟩ ⟨(Nat.le_of_ble_eq_true rfl), (Nat.le_of_ble_eq_true rfl)⟩ (fun _ => ?_)
  obtain ⟨he, hr2⟩ := eq_row hR (xs (i + 1)) (xs (i + 2)) (xs (i + 3))
  refine g_icmp_eq (tgt := 901) C dL_law_162 (by decide) (fun _ => ?_) (fun q => absurd he q)
  refine g_toC ?_
  exact kk _ _ hr2

set_option maxHeartbeats 1000000 in
set_option maxRecDepth 100000 in
theorem law_number {E : EnvT} {K : KT} {ad bd : Nat → Nat} {S : CS} {M : MSt} {b L i : Nat} {xs : Nat → Int32} (C : Ok E K cL_law RL 4 room_1) (hX : LX E b L xs) (hL : L ≤ 3072) (hi : i + 6 ≤ L) (hR : Rel S M) (kk : ∀ (S2 : CS) (M2 : MSt), Rel S2 M2 → G E K 30 486 (cW K ad S2 (mW K bd M2 [])) (lvL b (ad 0) (bd 0) i) 901 []) : G E K 30 486 (cW K ad S (mW K bd M [])) (lvL b (ad 0) (bd 0) i) 167 [] := by
  refine g_aload_n (i := 1) C dL_law_167 rfl rfl ?_
  refine g_arg 1 C hX hL hi (by decide) dL_law_168 dL_law_169 dL_law_170 dL_law_171 dL_law_172 rfl ?_
  refine g_arg 2 C hX hL hi (by decide) dL_law_173 dL_law_174 dL_law_175 dL_law_176 dL_law_177 rfl ?_
  refine g_arg 3 C hX hL hi (by decide) dL_law_178 dL_law_179 dL_law_180 dL_law_181 dL_law_182 rfl ?_
  refine g_callV (av := [.int (xs (i + 1)), .int (xs (i + 2)), .int (xs (i + 3))]) C dL_law_183 ln_L_18 mf_X1_number 0 rfl rfl (kX1_number K ad S (mW K bd M []) (xs (i + 1)) (xs (i + 2)) (xs (i + 3)) ) rfl rfl (Nat.le_of_ble_eq_true rfl) ⟨(Nat.le_of_ble_eq_true rfl), (Nat.le_of_ble_eq_true rfl)⟩ ⟨(Nat.le_of_ble_eq_true rfl), (Nat.le_of_ble_eq_true rfl)⟩ (fun _ => ?_)
  refine g_toM ?_
  refine g_aload_n (i := 2) C dL_law_186 rfl rfl ?_
  refine g_arg 1 C hX hL hi (by decide) dL_law_187 dL_law_188 dL_law_189 dL_law_190 dL_law_191 rfl ?_
  refine g_arg 2 C hX hL hi (by decide) dL_law_192 dL_law_193 dL_law_194 dL_law_195 dL_law_196 rfl ?_
  refine g_arg 3 C hX hL hi (by decide) dL_law_197 dL_law_198 dL_law_199 dL_law_200 dL_law_201 rfl ?_
  refine g_callV (av := [.int (xs (i + 1)), .int (xs (i + 2)), .int (xs (i + 3))]) C dL_law_202 ln_L_21 mf_X2_number 0 rfl rfl (kX2_number K bd M (cW K ad (cNum S (xs (i + 1)) (xs (i + 2)) (xs (i + 3))).2 []) (xs (i + 1)) (xs (i + 2)) (xs (i + 3)) ) rfl rfl (Nat.le_of_ble_eq_true rfl) ⟨(Nat.le_of_ble_eq_true rfl), (Nat.le_of_ble_eq_true rfl)⟩ ⟨(Nat.le_of_ble_eq_true rfl), (Nat.le_of_ble_eq_true rfl)⟩ (fun _ => ?_)
  obtain ⟨he, hr2⟩ := eq_number hR (xs (i + 1)) (xs (i + 2)) (xs (i + 3))
  refine g_icmp_eq (tgt := 901) C dL_law_205 (by decide) (fun _ => ?_) (fun q => absurd he q)
  refine g_toC ?_
  exact kk _ _ hr2

set_option maxHeartbeats 1000000 in
set_option maxRecDepth 100000 in
theorem law_at {E : EnvT} {K : KT} {ad bd : Nat → Nat} {S : CS} {M : MSt} {b L i : Nat} {xs : Nat → Int32} (C : Ok E K cL_law RL 4 room_1) (hX : LX E b L xs) (hL : L ≤ 3072) (hi : i + 6 ≤ L) (hR : Rel S M) (kk : ∀ (S2 : CS) (M2 : MSt), Rel S2 M2 → G E K 30 486 (cW K ad S2 (mW K bd M2 [])) (lvL b (ad 0) (bd 0) i) 901 []) : G E K 30 486 (cW K ad S (mW K bd M [])) (lvL b (ad 0) (bd 0) i) 210 [] := by
  refine g_aload_n (i := 1) C dL_law_210 rfl rfl ?_
  refine g_arg 1 C hX hL hi (by decide) dL_law_211 dL_law_212 dL_law_213 dL_law_214 dL_law_215 rfl ?_
  refine g_arg 2 C hX hL hi (by decide) dL_law_216 dL_law_217 dL_law_218 dL_law_219 dL_law_220 rfl ?_
  refine g_callV (av := [.int (xs (i + 1)), .int (xs (i + 2))]) C dL_law_221 ln_L_22 mf_X1_at 0 rfl rfl (kX1_at K ad S (mW K bd M []) (xs (i + 1)) (xs (i + 2)) ) rfl rfl (Nat.le_of_ble_eq_true rfl) ⟨(Nat.le_of_ble_eq_true rfl), (Nat.le_of_ble_eq_true rfl)⟩ ⟨(Nat.le_of_ble_eq_true rfl), (Nat.le_of_ble_eq_true rfl)⟩ (fun _ => ?_)
  refine g_toM ?_
  refine g_aload_n (i := 2) C dL_law_224 rfl rfl ?_
  refine g_arg 1 C hX hL hi (by decide) dL_law_225 dL_law_226 dL_law_227 dL_law_228 dL_law_229 rfl ?_
  refine g_arg 2 C hX hL hi (by decide) dL_law_230 dL_law_231 dL_law_232 dL_law_233 dL_law_234 rfl ?_
  refine g_callV (av := [.int (xs (i + 1)), .int (xs (i + 2))]) C dL_law_235 ln_L_26 mf_X2_at 0 rfl rfl (kX2_at K bd M (cW K ad S []) (xs (i + 1)) (xs (i + 2)) ) rfl rfl (Nat.le_of_ble_eq_true rfl) ⟨(Nat.le_of_ble_eq_true rfl), (Nat.le_of_ble_eq_true rfl)⟩ ⟨(Nat.le_of_ble_eq_true rfl), (Nat.le_of_ble_eq_true rfl)⟩ (fun _ => ?_)
  have he := eq_at hR (xs (i + 1)) (xs (i + 2))
  refine g_icmp_eq (tgt := 901) C dL_law_238 (by decide) (fun _ => ?_) (fun q => absurd he q)
  refine g_toC ?_
  exact kk _ _ hR

set_option maxHeartbeats 1000000 in
set_option maxRecDepth 100000 in
theorem law_value {E : EnvT} {K : KT} {ad bd : Nat → Nat} {S : CS} {M : MSt} {b L i : Nat} {xs : Nat → Int32} (C : Ok E K cL_law RL 4 room_1) (hX : LX E b L xs) (hL : L ≤ 3072) (hi : i + 6 ≤ L) (hR : Rel S M) (kk : ∀ (S2 : CS) (M2 : MSt), Rel S2 M2 → G E K 30 486 (cW K ad S2 (mW K bd M2 [])) (lvL b (ad 0) (bd 0) i) 901 []) : G E K 30 486 (cW K ad S (mW K bd M [])) (lvL b (ad 0) (bd 0) i) 243 [] := by
  refine g_aload_n (i := 1) C dL_law_243 rfl rfl ?_
  refine g_arg 1 C hX hL hi (by decide) dL_law_244 dL_law_245 dL_law_246 dL_law_247 dL_law_248 rfl ?_
  refine g_arg 2 C hX hL hi (by decide) dL_law_249 dL_law_250 dL_law_251 dL_law_252 dL_law_253 rfl ?_
  refine g_callV (av := [.int (xs (i + 1)), .int (xs (i + 2))]) C dL_law_254 ln_L_27 mf_X1_value 0 rfl rfl (kX1_value K ad S (mW K bd M []) (xs (i + 1)) (xs (i + 2)) ) rfl rfl (Nat.le_of_ble_eq_true rfl) ⟨(Nat.le_of_ble_eq_true rfl), (Nat.le_of_ble_eq_true rfl)⟩ ⟨(Nat.le_of_ble_eq_true rfl), (Nat.le_of_ble_eq_true rfl)⟩ (fun _ => ?_)
  refine g_toM ?_
  refine g_aload_n (i := 2) C dL_law_257 rfl rfl ?_
  refine g_arg 1 C hX hL hi (by decide) dL_law_258 dL_law_259 dL_law_260 dL_law_261 dL_law_262 rfl ?_
  refine g_arg 2 C hX hL hi (by decide) dL_law_263 dL_law_264 dL_law_265 dL_law_266 dL_law_267 rfl ?_
  refine g_callV (av := [.int (xs (i + 1)), .int (xs (i + 2))]) C dL_law_268 ln_L_30 mf_X2_value 0 rfl rfl (kX2_value K bd M (cW K ad S []) (xs (i + 1)) (xs (i + 2)) hR.hd) rfl rfl (Nat.le_of_ble_eq_true rfl) ⟨(Nat.le_of_ble_eq_true rfl), (Nat.le_of_ble_eq_true rfl)⟩ ⟨(Nat.le_of_ble_eq_true rfl), (Nat.le_of_ble_eq_true rfl)⟩ (fun _ => ?_)
  have he := eq_value hR (xs (i + 1)) (xs (i + 2))
  refine g_icmp_eq (tgt := 901) C dL_law_271 (by decide) (fun _ => ?_) (fun q => absurd he q)
  refine g_toC ?_
  exact kk _ _ hR

set_option maxHeartbeats 1000000 in
set_option maxRecDepth 100000 in
theorem law_against {E : EnvT} {K : KT} {ad bd : Nat → Nat} {S : CS} {M : MSt} {b L i : Nat} {xs : Nat → Int32} (C : Ok E K cL_law RL 4 room_1) (hX : LX E b L xs) (hL : L ≤ 3072) (hi : i + 6 ≤ L) (hR : Rel S M) (kk : ∀ (S2 : CS) (M2 : MSt), Rel S2 M2 → G E K 30 486 (cW K ad S2 (mW K bd M2 [])) (lvL b (ad 0) (bd 0) i) 901 []) : G E K 30 486 (cW K ad S (mW K bd M [])) (lvL b (ad 0) (bd 0) i) 276 [] := by
  refine g_aload_n (i := 1) C dL_law_276 rfl rfl ?_
  refine g_arg 1 C hX hL hi (by decide) dL_law_277 dL_law_278 dL_law_279 dL_law_280 dL_law_281 rfl ?_
  refine g_arg 2 C hX hL hi (by decide) dL_law_282 dL_law_283 dL_law_284 dL_law_285 dL_law_286 rfl ?_
  refine g_callV (av := [.int (xs (i + 1)), .int (xs (i + 2))]) C dL_law_287 ln_L_31 mf_X1_against 0 rfl rfl (kX1_against K ad S (mW K bd M []) (xs (i + 1)) (xs (i + 2)) ) rfl rfl (Nat.le_of_ble_eq_true rfl) ⟨(Nat.le_of_ble_eq_true rfl), (Nat.le_of_ble_eq_true rfl)⟩ ⟨(Nat.le_of_ble_eq_true rfl), (Nat.le_of_ble_eq_true rfl)⟩ (fun _ => ?_)
  refine g_toM ?_
  refine g_aload_n (i := 2) C dL_law_290 rfl rfl ?_
  refine g_arg 1 C hX hL hi (by decide) dL_law_291 dL_law_292 dL_law_293 dL_law_294 dL_law_295 rfl ?_
  refine g_arg 2 C hX hL hi (by decide) dL_law_296 dL_law_297 dL_law_298 dL_law_299 dL_law_300 rfl ?_
  refine g_callV (av := [.int (xs (i + 1)), .int (xs (i + 2))]) C dL_law_301 ln_L_34 mf_X2_against 0 rfl rfl (kX2_against K bd M (cW K ad S []) (xs (i + 1)) (xs (i + 2)) hR.hd) rfl rfl (Nat.le_of_ble_eq_true rfl) ⟨(Nat.le_of_ble_eq_true rfl), (Nat.le_of_ble_eq_true rfl)⟩ ⟨(Nat.le_of_ble_eq_true rfl), (Nat.le_of_ble_eq_true rfl)⟩ (fun _ => ?_)
  have he := eq_against hR (xs (i + 1)) (xs (i + 2))
  refine g_icmp_eq (tgt := 901) C dL_law_304 (by decide) (fun _ => ?_) (fun q => absurd he q)
  refine g_toC ?_
  exact kk _ _ hR

set_option maxHeartbeats 1000000 in
set_option maxRecDepth 100000 in
theorem law_work {E : EnvT} {K : KT} {ad bd : Nat → Nat} {S : CS} {M : MSt} {b L i : Nat} {xs : Nat → Int32} (C : Ok E K cL_law RL 4 room_1) (hX : LX E b L xs) (hL : L ≤ 3072) (hi : i + 6 ≤ L) (hR : Rel S M) (kk : ∀ (S2 : CS) (M2 : MSt), Rel S2 M2 → G E K 30 486 (cW K ad S2 (mW K bd M2 [])) (lvL b (ad 0) (bd 0) i) 901 []) : G E K 30 486 (cW K ad S (mW K bd M [])) (lvL b (ad 0) (bd 0) i) 309 [] := by
  refine g_aload_n (i := 1) C dL_law_309 rfl rfl ?_
  refine g_arg 1 C hX hL hi (by decide) dL_law_310 dL_law_311 dL_law_312 dL_law_313 dL_law_314 rfl ?_
  refine g_arg 2 C hX hL hi (by decide) dL_law_315 dL_law_316 dL_law_317 dL_law_318 dL_law_319 rfl ?_
  refine g_arg 3 C hX hL hi (by decide) dL_law_320 dL_law_321 dL_law_322 dL_law_323 dL_law_324 rfl ?_
  refine g_arg 4 C hX hL hi (by decide) dL_law_325 dL_law_326 dL_law_327 dL_law_328 dL_law_329 rfl ?_
  refine g_callV (av := [.int (xs (i + 1)), .int (xs (i + 2)), .int (xs (i + 3)), .int (xs (i + 4))]) C dL_law_330 ln_L_35 mf_X1_work 0 rfl rfl (kX1_work K ad S (mW K bd M []) (xs (i + 1)) (xs (i + 2)) (xs (i + 3)) (xs (i + 4)) ) rfl rfl (Nat.le_of_ble_eq_true rfl) ⟨(Nat.le_of_ble_eq_true rfl), (Nat.le_of_ble_eq_true rfl)⟩ ⟨(Nat.le_of_ble_eq_true rfl), (Nat.le_of_ble_eq_true rfl)⟩ (fun _ => ?_)
  refine g_toM ?_
  refine g_aload_n (i := 2) C dL_law_333 rfl rfl ?_
  refine g_arg 1 C hX hL hi (by decide) dL_law_334 dL_law_335 dL_law_336 dL_law_337 dL_law_338 rfl ?_
  refine g_arg 2 C hX hL hi (by decide) dL_law_339 dL_law_340 dL_law_341 dL_law_342 dL_law_343 rfl ?_
  refine g_arg 3 C hX hL hi (by decide) dL_law_344 dL_law_345 dL_law_346 dL_law_347 dL_law_348 rfl ?_
  refine g_arg 4 C hX hL hi (by decide) dL_law_349 dL_law_350 dL_law_351 dL_law_352 dL_law_353 rfl ?_
  refine g_callV (av := [.int (xs (i + 1)), .int (xs (i + 2)), .int (xs (i + 3)), .int (xs (i + 4))]) C dL_law_354 ln_L_39 mf_X2_work 0 rfl rfl (kX2_work K bd M (cW K ad (cWork S (xs (i + 1)) (xs (i + 2)) (xs (i + 3)) (xs (i + 4))).2 []) (xs (i + 1)) (xs (i + 2)) (xs (i + 3)) (xs (i + 4)) hR.hd) rfl rfl (Nat.le_of_ble_eq_true rfl) ⟨(Nat.le_of_ble_eq_true rfl), (Nat.le_of_ble_eq_true rfl)⟩ ⟨(Nat.le_of_ble_eq_true rfl), (Nat.le_of_ble_eq_true rfl)⟩ (fun _ => ?_)
  obtain ⟨he, hr2⟩ := eq_work hR (xs (i + 1)) (xs (i + 2)) (xs (i + 3)) (xs (i + 4))
  refine g_icmp_eq (tgt := 901) C dL_law_357 (by decide) (fun _ => ?_) (fun q => absurd he q)
  refine g_toC ?_
  exact kk _ _ hr2

set_option maxHeartbeats 1000000 in
set_option maxRecDepth 100000 in
theorem law_side {E : EnvT} {K : KT} {ad bd : Nat → Nat} {S : CS} {M : MSt} {b L i : Nat} {xs : Nat → Int32} (C : Ok E K cL_law RL 4 room_1) (hX : LX E b L xs) (hL : L ≤ 3072) (hi : i + 6 ≤ L) (hR : Rel S M) (kk : ∀ (S2 : CS) (M2 : MSt), Rel S2 M2 → G E K 30 486 (cW K ad S2 (mW K bd M2 [])) (lvL b (ad 0) (bd 0) i) 901 []) : G E K 30 486 (cW K ad S (mW K bd M [])) (lvL b (ad 0) (bd 0) i) 362 [] := by
  refine g_aload_n (i := 1) C dL_law_362 rfl rfl ?_
  refine g_arg 1 C hX hL hi (by decide) dL_law_363 dL_law_364 dL_law_365 dL_law_366 dL_law_367 rfl ?_
  refine g_arg 2 C hX hL hi (by decide) dL_law_368 dL_law_369 dL_law_370 dL_law_371 dL_law_372 rfl ?_
  refine g_arg 3 C hX hL hi (by decide) dL_law_373 dL_law_374 dL_law_375 dL_law_376 dL_law_377 rfl ?_
  refine g_callV (av := [.int (xs (i + 1)), .int (xs (i + 2)), .int (xs (i + 3))]) C dL_law_378 ln_L_40 mf_X1_side 0 rfl rfl (kX1_side K ad S (mW K bd M []) (xs (i + 1)) (xs (i + 2)) (xs (i + 3)) hR.hdc) rfl rfl (Nat.le_of_ble_eq_true rfl) ⟨(Nat.le_of_ble_eq_true rfl), (Nat.le_of_ble_eq_true rfl)⟩ ⟨(Nat.le_of_ble_eq_true rfl), (Nat.le_of_ble_eq_true rfl)⟩ (fun _ => ?_)
  refine g_toM ?_
  refine g_aload_n (i := 2) C dL_law_381 rfl rfl ?_
  refine g_arg 1 C hX hL hi (by decide) dL_law_382 dL_law_383 dL_law_384 dL_law_385 dL_law_386 rfl ?_
  refine g_arg 2 C hX hL hi (by decide) dL_law_387 dL_law_388 dL_law_389 dL_law_390 dL_law_391 rfl ?_
  refine g_arg 3 C hX hL hi (by decide) dL_law_392 dL_law_393 dL_law_394 dL_law_395 dL_law_396 rfl ?_
  refine g_callV (av := [.int (xs (i + 1)), .int (xs (i + 2)), .int (xs (i + 3))]) C dL_law_397 ln_L_43 mf_X2_side 0 rfl rfl (kX2_side K bd M (cW K ad (cSide S (xs (i + 1)) (xs (i + 2)) (xs (i + 3))).2 []) (xs (i + 1)) (xs (i + 2)) (xs (i + 3)) hR.hd) rfl rfl (Nat.le_of_ble_eq_true rfl) ⟨(Nat.le_of_ble_eq_true rfl), (Nat.le_of_ble_eq_true rfl)⟩ ⟨(Nat.le_of_ble_eq_true rfl), (Nat.le_of_ble_eq_true rfl)⟩ (fun _ => ?_)
  obtain ⟨he, hr2⟩ := eq_side hR (xs (i + 1)) (xs (i + 2)) (xs (i + 3))
  refine g_icmp_eq (tgt := 901) C dL_law_400 (by decide) (fun _ => ?_) (fun q => absurd he q)
  refine g_toC ?_
  exact kk _ _ hr2

set_option maxHeartbeats 1000000 in
set_option maxRecDepth 100000 in
theorem law_cut {E : EnvT} {K : KT} {ad bd : Nat → Nat} {S : CS} {M : MSt} {b L i : Nat} {xs : Nat → Int32} (C : Ok E K cL_law RL 4 room_1) (hX : LX E b L xs) (hL : L ≤ 3072) (hi : i + 6 ≤ L) (hR : Rel S M) (kk : ∀ (S2 : CS) (M2 : MSt), Rel S2 M2 → G E K 30 486 (cW K ad S2 (mW K bd M2 [])) (lvL b (ad 0) (bd 0) i) 901 []) : G E K 30 486 (cW K ad S (mW K bd M [])) (lvL b (ad 0) (bd 0) i) 405 [] := by
  refine g_aload_n (i := 1) C dL_law_405 rfl rfl ?_
  refine g_arg 1 C hX hL hi (by decide) dL_law_406 dL_law_407 dL_law_408 dL_law_409 dL_law_410 rfl ?_
  refine g_arg 2 C hX hL hi (by decide) dL_law_411 dL_law_412 dL_law_413 dL_law_414 dL_law_415 rfl ?_
  refine g_arg 3 C hX hL hi (by decide) dL_law_416 dL_law_417 dL_law_418 dL_law_419 dL_law_420 rfl ?_
  refine g_callV (av := [.int (xs (i + 1)), .int (xs (i + 2)), .int (xs (i + 3))]) C dL_law_421 ln_L_44 mf_X1_cut 0 rfl rfl (kX1_cut K ad S (mW K bd M []) (xs (i + 1)) (xs (i + 2)) (xs (i + 3)) ) rfl rfl (Nat.le_of_ble_eq_true rfl) ⟨(Nat.le_of_ble_eq_true rfl), (Nat.le_of_ble_eq_true rfl)⟩ ⟨(Nat.le_of_ble_eq_true rfl), (Nat.le_of_ble_eq_true rfl)⟩ (fun _ => ?_)
  refine g_toM ?_
  refine g_aload_n (i := 2) C dL_law_424 rfl rfl ?_
  refine g_arg 1 C hX hL hi (by decide) dL_law_425 dL_law_426 dL_law_427 dL_law_428 dL_law_429 rfl ?_
  refine g_arg 2 C hX hL hi (by decide) dL_law_430 dL_law_431 dL_law_432 dL_law_433 dL_law_434 rfl ?_
  refine g_arg 3 C hX hL hi (by decide) dL_law_435 dL_law_436 dL_law_437 dL_law_438 dL_law_439 rfl ?_
  refine g_callV (av := [.int (xs (i + 1)), .int (xs (i + 2)), .int (xs (i + 3))]) C dL_law_440 ln_L_47 mf_X2_cut 0 rfl rfl (kX2_cut K bd M (cW K ad (cCut S (xs (i + 1)) (xs (i + 2)) (xs (i + 3))).2 []) (xs (i + 1)) (xs (i + 2)) (xs (i + 3)) hR.hd) rfl rfl (Nat.le_of_ble_eq_true rfl) ⟨(Nat.le_of_ble_eq_true rfl), (Nat.le_of_ble_eq_true rfl)⟩ ⟨(Nat.le_of_ble_eq_true rfl), (Nat.le_of_ble_eq_true rfl)⟩ (fun _ => ?_)
  obtain ⟨he, hr2⟩ := eq_cut hR (xs (i + 1)) (xs (i + 2)) (xs (i + 3))
  refine g_icmp_eq (tgt := 901) C dL_law_443 (by decide) (fun _ => ?_) (fun q => absurd he q)
  refine g_toC ?_
  exact kk _ _ hr2

set_option maxHeartbeats 1000000 in
set_option maxRecDepth 100000 in
theorem law_pair {E : EnvT} {K : KT} {ad bd : Nat → Nat} {S : CS} {M : MSt} {b L i : Nat} {xs : Nat → Int32} (C : Ok E K cL_law RL 4 room_1) (hX : LX E b L xs) (hL : L ≤ 3072) (hi : i + 6 ≤ L) (hR : Rel S M) (kk : ∀ (S2 : CS) (M2 : MSt), Rel S2 M2 → G E K 30 486 (cW K ad S2 (mW K bd M2 [])) (lvL b (ad 0) (bd 0) i) 901 []) : G E K 30 486 (cW K ad S (mW K bd M [])) (lvL b (ad 0) (bd 0) i) 448 [] := by
  refine g_aload_n (i := 1) C dL_law_448 rfl rfl ?_
  refine g_arg 1 C hX hL hi (by decide) dL_law_449 dL_law_450 dL_law_451 dL_law_452 dL_law_453 rfl ?_
  refine g_callV (av := [.int (xs (i + 1))]) C dL_law_454 ln_L_48 mf_X1_pair 0 rfl rfl (kX1_pair K ad S (mW K bd M []) (xs (i + 1)) ) rfl rfl (Nat.le_of_ble_eq_true rfl) ⟨(Nat.le_of_ble_eq_true rfl), (Nat.le_of_ble_eq_true rfl)⟩ ⟨(Nat.le_of_ble_eq_true rfl), (Nat.le_of_ble_eq_true rfl)⟩ (fun _ => ?_)
  refine g_toM ?_
  refine g_aload_n (i := 2) C dL_law_457 rfl rfl ?_
  refine g_arg 1 C hX hL hi (by decide) dL_law_458 dL_law_459 dL_law_460 dL_law_461 dL_law_462 rfl ?_
  refine g_callV (av := [.int (xs (i + 1))]) C dL_law_463 ln_L_52 mf_X2_pair 0 rfl rfl (kX2_pair K bd M (cW K ad S []) (xs (i + 1)) ) rfl rfl (Nat.le_of_ble_eq_true rfl) ⟨(Nat.le_of_ble_eq_true rfl), (Nat.le_of_ble_eq_true rfl)⟩ ⟨(Nat.le_of_ble_eq_true rfl), (Nat.le_of_ble_eq_true rfl)⟩ (fun _ => ?_)
  have he := eq_pair hR (xs (i + 1))
  refine g_icmp_eq (tgt := 901) C dL_law_466 (by decide) (fun _ => ?_) (fun q => absurd he q)
  refine g_toC ?_
  exact kk _ _ hR

set_option maxHeartbeats 1000000 in
set_option maxRecDepth 100000 in
theorem law_born {E : EnvT} {K : KT} {ad bd : Nat → Nat} {S : CS} {M : MSt} {b L i : Nat} {xs : Nat → Int32} (C : Ok E K cL_law RL 4 room_1) (hX : LX E b L xs) (hL : L ≤ 3072) (hi : i + 6 ≤ L) (hR : Rel S M) (kk : ∀ (S2 : CS) (M2 : MSt), Rel S2 M2 → G E K 30 486 (cW K ad S2 (mW K bd M2 [])) (lvL b (ad 0) (bd 0) i) 901 []) : G E K 30 486 (cW K ad S (mW K bd M [])) (lvL b (ad 0) (bd 0) i) 471 [] := by
  refine g_aload_n (i := 1) C dL_law_471 rfl rfl ?_
  refine g_arg 1 C hX hL hi (by decide) dL_law_472 dL_law_473 dL_law_474 dL_law_475 dL_law_476 rfl ?_
  refine g_arg 2 C hX hL hi (by decide) dL_law_477 dL_law_478 dL_law_479 dL_law_480 dL_law_481 rfl ?_
  refine g_arg 3 C hX hL hi (by decide) dL_law_482 dL_law_483 dL_law_484 dL_law_485 dL_law_486 rfl ?_
  refine g_callV (av := [.int (xs (i + 1)), .int (xs (i + 2)), .int (xs (i + 3))]) C dL_law_487 ln_L_53 mf_X1_born 0 rfl rfl (kX1_born K ad S (mW K bd M []) (xs (i + 1)) (xs (i + 2)) (xs (i + 3)) ) rfl rfl (Nat.le_of_ble_eq_true rfl) ⟨(Nat.le_of_ble_eq_true rfl), (Nat.le_of_ble_eq_true rfl)⟩ ⟨(Nat.le_of_ble_eq_true rfl), (Nat.le_of_ble_eq_true rfl)⟩ (fun _ => ?_)
  refine g_toM ?_
  refine g_aload_n (i := 2) C dL_law_490 rfl rfl ?_
  refine g_arg 1 C hX hL hi (by decide) dL_law_491 dL_law_492 dL_law_493 dL_law_494 dL_law_495 rfl ?_
  refine g_arg 2 C hX hL hi (by decide) dL_law_496 dL_law_497 dL_law_498 dL_law_499 dL_law_500 rfl ?_
  refine g_arg 3 C hX hL hi (by decide) dL_law_501 dL_law_502 dL_law_503 dL_law_504 dL_law_505 rfl ?_
  refine g_callV (av := [.int (xs (i + 1)), .int (xs (i + 2)), .int (xs (i + 3))]) C dL_law_506 ln_L_56 mf_X2_born 0 rfl rfl (kX2_born K bd M (cW K ad (cBorn S (xs (i + 1)) (xs (i + 2)) (xs (i + 3))).2 []) (xs (i + 1)) (xs (i + 2)) (xs (i + 3)) ) rfl rfl (Nat.le_of_ble_eq_true rfl) ⟨(Nat.le_of_ble_eq_true rfl), (Nat.le_of_ble_eq_true rfl)⟩ ⟨(Nat.le_of_ble_eq_true rfl), (Nat.le_of_ble_eq_true rfl)⟩ (fun _ => ?_)
  obtain ⟨he, hr2⟩ := eq_born hR (xs (i + 1)) (xs (i + 2)) (xs (i + 3))
  refine g_icmp_eq (tgt := 901) C dL_law_509 (by decide) (fun _ => ?_) (fun q => absurd he q)
  refine g_toC ?_
  exact kk _ _ hr2

set_option maxHeartbeats 1000000 in
set_option maxRecDepth 100000 in
theorem law_between {E : EnvT} {K : KT} {ad bd : Nat → Nat} {S : CS} {M : MSt} {b L i : Nat} {xs : Nat → Int32} (C : Ok E K cL_law RL 4 room_1) (hX : LX E b L xs) (hL : L ≤ 3072) (hi : i + 6 ≤ L) (hR : Rel S M) (kk : ∀ (S2 : CS) (M2 : MSt), Rel S2 M2 → G E K 30 486 (cW K ad S2 (mW K bd M2 [])) (lvL b (ad 0) (bd 0) i) 901 []) : G E K 30 486 (cW K ad S (mW K bd M [])) (lvL b (ad 0) (bd 0) i) 514 [] := by
  refine g_aload_n (i := 1) C dL_law_514 rfl rfl ?_
  refine g_arg 1 C hX hL hi (by decide) dL_law_515 dL_law_516 dL_law_517 dL_law_518 dL_law_519 rfl ?_
  refine g_arg 2 C hX hL hi (by decide) dL_law_520 dL_law_521 dL_law_522 dL_law_523 dL_law_524 rfl ?_
  refine g_arg 3 C hX hL hi (by decide) dL_law_525 dL_law_526 dL_law_527 dL_law_528 dL_law_529 rfl ?_
  refine g_callV (av := [.int (xs (i + 1)), .int (xs (i + 2)), .int (xs (i + 3))]) C dL_law_530 ln_L_57 mf_X1_between 0 rfl rfl (kX1_between K ad S (mW K bd M []) (xs (i + 1)) (xs (i + 2)) (xs (i + 3)) hR.hdc) rfl rfl (Nat.le_of_ble_eq_true rfl) ⟨(Nat.le_of_ble_eq_true rfl), (Nat.le_of_ble_eq_true rfl)⟩ ⟨(Nat.le_of_ble_eq_true rfl), (Nat.le_of_ble_eq_true rfl)⟩ (fun _ => ?_)
  refine g_toM ?_
  refine g_aload_n (i := 2) C dL_law_533 rfl rfl ?_
  refine g_arg 1 C hX hL hi (by decide) dL_law_534 dL_law_535 dL_law_536 dL_law_537 dL_law_538 rfl ?_
  refine g_arg 2 C hX hL hi (by decide) dL_law_539 dL_law_540 dL_law_541 dL_law_542 dL_law_543 rfl ?_
  refine g_arg 3 C hX hL hi (by decide) dL_law_544 dL_law_545 dL_law_546 dL_law_547 dL_law_548 rfl ?_
  refine g_callV (av := [.int (xs (i + 1)), .int (xs (i + 2)), .int (xs (i + 3))]) C dL_law_549 ln_L_60 mf_X2_between 0 rfl rfl (kX2_between K bd M (cW K ad S []) (xs (i + 1)) (xs (i + 2)) (xs (i + 3)) hR.hd) rfl rfl (Nat.le_of_ble_eq_true rfl) ⟨(Nat.le_of_ble_eq_true rfl), (Nat.le_of_ble_eq_true rfl)⟩ ⟨(Nat.le_of_ble_eq_true rfl), (Nat.le_of_ble_eq_true rfl)⟩ (fun _ => ?_)
  have he := eq_between hR (xs (i + 1)) (xs (i + 2)) (xs (i + 3))
  refine g_icmp_eq (tgt := 901) C dL_law_552 (by decide) (fun _ => ?_) (fun q => absurd he q)
  refine g_toC ?_
  exact kk _ _ hR

set_option maxHeartbeats 1000000 in
set_option maxRecDepth 100000 in
theorem law_wins {E : EnvT} {K : KT} {ad bd : Nat → Nat} {S : CS} {M : MSt} {b L i : Nat} {xs : Nat → Int32} (C : Ok E K cL_law RL 4 room_1) (hX : LX E b L xs) (hL : L ≤ 3072) (hi : i + 6 ≤ L) (hR : Rel S M) (kk : ∀ (S2 : CS) (M2 : MSt), Rel S2 M2 → G E K 30 486 (cW K ad S2 (mW K bd M2 [])) (lvL b (ad 0) (bd 0) i) 901 []) : G E K 30 486 (cW K ad S (mW K bd M [])) (lvL b (ad 0) (bd 0) i) 557 [] := by
  refine g_aload_n (i := 1) C dL_law_557 rfl rfl ?_
  refine g_arg 1 C hX hL hi (by decide) dL_law_558 dL_law_559 dL_law_560 dL_law_561 dL_law_562 rfl ?_
  refine g_arg 2 C hX hL hi (by decide) dL_law_563 dL_law_564 dL_law_565 dL_law_566 dL_law_567 rfl ?_
  refine g_callV (av := [.int (xs (i + 1)), .int (xs (i + 2))]) C dL_law_568 ln_L_61 mf_X1_wins 0 rfl rfl (kX1_wins K ad S (mW K bd M []) (xs (i + 1)) (xs (i + 2)) ) rfl rfl (Nat.le_of_ble_eq_true rfl) ⟨(Nat.le_of_ble_eq_true rfl), (Nat.le_of_ble_eq_true rfl)⟩ ⟨(Nat.le_of_ble_eq_true rfl), (Nat.le_of_ble_eq_true rfl)⟩ (fun _ => ?_)
  refine g_toM ?_
  refine g_aload_n (i := 2) C dL_law_571 rfl rfl ?_
  refine g_arg 1 C hX hL hi (by decide) dL_law_572 dL_law_573 dL_law_574 dL_law_575 dL_law_576 rfl ?_
  refine g_arg 2 C hX hL hi (by decide) dL_law_577 dL_law_578 dL_law_579 dL_law_580 dL_law_581 rfl ?_
  refine g_callV (av := [.int (xs (i + 1)), .int (xs (i + 2))]) C dL_law_582 ln_L_64 mf_X2_wins 0 rfl rfl (kX2_wins K bd M (cW K ad S []) (xs (i + 1)) (xs (i + 2)) hR.hd) rfl rfl (Nat.le_of_ble_eq_true rfl) ⟨(Nat.le_of_ble_eq_true rfl), (Nat.le_of_ble_eq_true rfl)⟩ ⟨(Nat.le_of_ble_eq_true rfl), (Nat.le_of_ble_eq_true rfl)⟩ (fun _ => ?_)
  have he := eq_wins hR (xs (i + 1)) (xs (i + 2))
  refine g_icmp_eq (tgt := 901) C dL_law_585 (by decide) (fun _ => ?_) (fun q => absurd he q)
  refine g_toC ?_
  exact kk _ _ hR

set_option maxHeartbeats 1000000 in
set_option maxRecDepth 100000 in
theorem law_term {E : EnvT} {K : KT} {ad bd : Nat → Nat} {S : CS} {M : MSt} {b L i : Nat} {xs : Nat → Int32} (C : Ok E K cL_law RL 4 room_1) (hX : LX E b L xs) (hL : L ≤ 3072) (hi : i + 6 ≤ L) (hR : Rel S M) (kk : ∀ (S2 : CS) (M2 : MSt), Rel S2 M2 → G E K 30 486 (cW K ad S2 (mW K bd M2 [])) (lvL b (ad 0) (bd 0) i) 901 []) : G E K 30 486 (cW K ad S (mW K bd M [])) (lvL b (ad 0) (bd 0) i) 590 [] := by
  refine g_aload_n (i := 1) C dL_law_590 rfl rfl ?_
  refine g_arg 1 C hX hL hi (by decide) dL_law_591 dL_law_592 dL_law_593 dL_law_594 dL_law_595 rfl ?_
  refine g_arg 2 C hX hL hi (by decide) dL_law_596 dL_law_597 dL_law_598 dL_law_599 dL_law_600 rfl ?_
  refine g_arg 3 C hX hL hi (by decide) dL_law_601 dL_law_602 dL_law_603 dL_law_604 dL_law_605 rfl ?_
  refine g_arg 4 C hX hL hi (by decide) dL_law_606 dL_law_607 dL_law_608 dL_law_609 dL_law_610 rfl ?_
  refine g_callV (av := [.int (xs (i + 1)), .int (xs (i + 2)), .int (xs (i + 3)), .int (xs (i + 4))]) C dL_law_611 ln_L_65 mf_X1_term 0 rfl rfl (kX1_term K ad S (mW K bd M []) (xs (i + 1)) (xs (i + 2)) (xs (i + 3)) (xs (i + 4)) ) rfl rfl (Nat.le_of_ble_eq_true rfl) ⟨(Nat.le_of_ble_eq_true rfl), (Nat.le_of_ble_eq_true rfl)⟩ ⟨(Nat.le_of_ble_eq_true rfl), (Nat.le_of_ble_eq_true rfl)⟩ (fun _ => ?_)
  refine g_toM ?_
  refine g_aload_n (i := 2) C dL_law_614 rfl rfl ?_
  refine g_arg 1 C hX hL hi (by decide) dL_law_615 dL_law_616 dL_law_617 dL_law_618 dL_law_619 rfl ?_
  refine g_arg 2 C hX hL hi (by decide) dL_law_620 dL_law_621 dL_law_622 dL_law_623 dL_law_624 rfl ?_
  refine g_arg 3 C hX hL hi (by decide) dL_law_625 dL_law_626 dL_law_627 dL_law_628 dL_law_629 rfl ?_
  refine g_arg 4 C hX hL hi (by decide) dL_law_630 dL_law_631 dL_law_632 dL_law_633 dL_law_634 rfl ?_
  refine g_callV (av := [.int (xs (i + 1)), .int (xs (i + 2)), .int (xs (i + 3)), .int (xs (i + 4))]) C dL_law_635 ln_L_68 mf_X2_term 0 rfl rfl (kX2_term K bd M (cW K ad (cTerm S (xs (i + 1)) (xs (i + 2)) (xs (i + 3)) (xs (i + 4))).2 []) (xs (i + 1)) (xs (i + 2)) (xs (i + 3)) (xs (i + 4)) ) rfl rfl (Nat.le_of_ble_eq_true rfl) ⟨(Nat.le_of_ble_eq_true rfl), (Nat.le_of_ble_eq_true rfl)⟩ ⟨(Nat.le_of_ble_eq_true rfl), (Nat.le_of_ble_eq_true rfl)⟩ (fun _ => ?_)
  obtain ⟨he, hr2⟩ := eq_term hR (xs (i + 1)) (xs (i + 2)) (xs (i + 3)) (xs (i + 4))
  refine g_icmp_eq (tgt := 901) C dL_law_638 (by decide) (fun _ => ?_) (fun q => absurd he q)
  refine g_toC ?_
  exact kk _ _ hr2

set_option maxHeartbeats 1000000 in
set_option maxRecDepth 100000 in
theorem law_told {E : EnvT} {K : KT} {ad bd : Nat → Nat} {S : CS} {M : MSt} {b L i : Nat} {xs : Nat → Int32} (C : Ok E K cL_law RL 4 room_1) (hX : LX E b L xs) (hL : L ≤ 3072) (hi : i + 6 ≤ L) (hR : Rel S M) (kk : ∀ (S2 : CS) (M2 : MSt), Rel S2 M2 → G E K 30 486 (cW K ad S2 (mW K bd M2 [])) (lvL b (ad 0) (bd 0) i) 901 []) : G E K 30 486 (cW K ad S (mW K bd M [])) (lvL b (ad 0) (bd 0) i) 643 [] := by
  refine g_aload_n (i := 1) C dL_law_643 rfl rfl ?_
  refine g_arg 1 C hX hL hi (by decide) dL_law_644 dL_law_645 dL_law_646 dL_law_647 dL_law_648 rfl ?_
  refine g_arg 2 C hX hL hi (by decide) dL_law_649 dL_law_650 dL_law_651 dL_law_652 dL_law_653 rfl ?_
  refine g_arg 3 C hX hL hi (by decide) dL_law_654 dL_law_655 dL_law_656 dL_law_657 dL_law_658 rfl ?_
  refine g_callV (av := [.int (xs (i + 1)), .int (xs (i + 2)), .int (xs (i + 3))]) C dL_law_659 ln_L_69 mf_X1_told 0 rfl rfl (kX1_told K ad S (mW K bd M []) (xs (i + 1)) (xs (i + 2)) (xs (i + 3)) ) rfl rfl (Nat.le_of_ble_eq_true rfl) ⟨(Nat.le_of_ble_eq_true rfl), (Nat.le_of_ble_eq_true rfl)⟩ ⟨(Nat.le_of_ble_eq_true rfl), (Nat.le_of_ble_eq_true rfl)⟩ (fun _ => ?_)
  refine g_toM ?_
  refine g_aload_n (i := 2) C dL_law_662 rfl rfl ?_
  refine g_arg 1 C hX hL hi (by decide) dL_law_663 dL_law_664 dL_law_665 dL_law_666 dL_law_667 rfl ?_
  refine g_arg 2 C hX hL hi (by decide) dL_law_668 dL_law_669 dL_law_670 dL_law_671 dL_law_672 rfl ?_
  refine g_arg 3 C hX hL hi (by decide) dL_law_673 dL_law_674 dL_law_675 dL_law_676 dL_law_677 rfl ?_
  refine g_callV (av := [.int (xs (i + 1)), .int (xs (i + 2)), .int (xs (i + 3))]) C dL_law_678 ln_L_72 mf_X2_told 0 rfl rfl (kX2_told K bd M (cW K ad S []) (xs (i + 1)) (xs (i + 2)) (xs (i + 3)) ) rfl rfl (Nat.le_of_ble_eq_true rfl) ⟨(Nat.le_of_ble_eq_true rfl), (Nat.le_of_ble_eq_true rfl)⟩ ⟨(Nat.le_of_ble_eq_true rfl), (Nat.le_of_ble_eq_true rfl)⟩ (fun _ => ?_)
  have he := eq_told hR (xs (i + 1)) (xs (i + 2)) (xs (i + 3))
  refine g_icmp_eq (tgt := 901) C dL_law_681 (by decide) (fun _ => ?_) (fun q => absurd he q)
  refine g_toC ?_
  exact kk _ _ hR

set_option maxHeartbeats 1000000 in
set_option maxRecDepth 100000 in
theorem law_sum {E : EnvT} {K : KT} {ad bd : Nat → Nat} {S : CS} {M : MSt} {b L i : Nat} {xs : Nat → Int32} (C : Ok E K cL_law RL 4 room_1) (hX : LX E b L xs) (hL : L ≤ 3072) (hi : i + 6 ≤ L) (hR : Rel S M) (kk : ∀ (S2 : CS) (M2 : MSt), Rel S2 M2 → G E K 30 486 (cW K ad S2 (mW K bd M2 [])) (lvL b (ad 0) (bd 0) i) 901 []) : G E K 30 486 (cW K ad S (mW K bd M [])) (lvL b (ad 0) (bd 0) i) 686 [] := by
  refine g_aload_n (i := 1) C dL_law_686 rfl rfl ?_
  refine g_arg 1 C hX hL hi (by decide) dL_law_687 dL_law_688 dL_law_689 dL_law_690 dL_law_691 rfl ?_
  refine g_arg 2 C hX hL hi (by decide) dL_law_692 dL_law_693 dL_law_694 dL_law_695 dL_law_696 rfl ?_
  refine g_arg 3 C hX hL hi (by decide) dL_law_697 dL_law_698 dL_law_699 dL_law_700 dL_law_701 rfl ?_
  refine g_arg 4 C hX hL hi (by decide) dL_law_702 dL_law_703 dL_law_704 dL_law_705 dL_law_706 rfl ?_
  refine g_callV (av := [.int (xs (i + 1)), .int (xs (i + 2)), .int (xs (i + 3)), .int (xs (i + 4))]) C dL_law_707 ln_L_73 mf_X1_sum 0 rfl rfl (kX1_sum K ad S (mW K bd M []) (xs (i + 1)) (xs (i + 2)) (xs (i + 3)) (xs (i + 4)) ) rfl rfl (Nat.le_of_ble_eq_true rfl) ⟨(Nat.le_of_ble_eq_true rfl), (Nat.le_of_ble_eq_true rfl)⟩ ⟨(Nat.le_of_ble_eq_true rfl), (Nat.le_of_ble_eq_true rfl)⟩ (fun _ => ?_)
  refine g_toM ?_
  refine g_aload_n (i := 2) C dL_law_710 rfl rfl ?_
  refine g_arg 1 C hX hL hi (by decide) dL_law_711 dL_law_712 dL_law_713 dL_law_714 dL_law_715 rfl ?_
  refine g_arg 2 C hX hL hi (by decide) dL_law_716 dL_law_717 dL_law_718 dL_law_719 dL_law_720 rfl ?_
  refine g_arg 3 C hX hL hi (by decide) dL_law_721 dL_law_722 dL_law_723 dL_law_724 dL_law_725 rfl ?_
  refine g_arg 4 C hX hL hi (by decide) dL_law_726 dL_law_727 dL_law_728 dL_law_729 dL_law_730 rfl ?_
  refine g_callV (av := [.int (xs (i + 1)), .int (xs (i + 2)), .int (xs (i + 3)), .int (xs (i + 4))]) C dL_law_731 ln_L_76 mf_X2_sum 0 rfl rfl (kX2_sum K bd M (cW K ad (cSum S (xs (i + 1)) (xs (i + 2)) (xs (i + 3)) (xs (i + 4))).2 []) (xs (i + 1)) (xs (i + 2)) (xs (i + 3)) (xs (i + 4)) hR.hB) rfl rfl (Nat.le_of_ble_eq_true rfl) ⟨(Nat.le_of_ble_eq_true rfl), (Nat.le_of_ble_eq_true rfl)⟩ ⟨(Nat.le_of_ble_eq_true rfl), (Nat.le_of_ble_eq_true rfl)⟩ (fun _ => ?_)
  obtain ⟨he, hr2⟩ := eq_sum hR (xs (i + 1)) (xs (i + 2)) (xs (i + 3)) (xs (i + 4))
  refine g_icmp_eq (tgt := 901) C dL_law_734 (by decide) (fun _ => ?_) (fun q => absurd he q)
  refine g_toC ?_
  exact kk _ _ hr2

set_option maxHeartbeats 1000000 in
set_option maxRecDepth 100000 in
theorem law_divide {E : EnvT} {K : KT} {ad bd : Nat → Nat} {S : CS} {M : MSt} {b L i : Nat} {xs : Nat → Int32} (C : Ok E K cL_law RL 4 room_1) (hX : LX E b L xs) (hL : L ≤ 3072) (hi : i + 6 ≤ L) (hR : Rel S M) (kk : ∀ (S2 : CS) (M2 : MSt), Rel S2 M2 → G E K 30 486 (cW K ad S2 (mW K bd M2 [])) (lvL b (ad 0) (bd 0) i) 901 []) : G E K 30 486 (cW K ad S (mW K bd M [])) (lvL b (ad 0) (bd 0) i) 739 [] := by
  refine g_aload_n (i := 1) C dL_law_739 rfl rfl ?_
  refine g_arg 1 C hX hL hi (by decide) dL_law_740 dL_law_741 dL_law_742 dL_law_743 dL_law_744 rfl ?_
  refine g_arg 2 C hX hL hi (by decide) dL_law_745 dL_law_746 dL_law_747 dL_law_748 dL_law_749 rfl ?_
  refine g_arg 3 C hX hL hi (by decide) dL_law_750 dL_law_751 dL_law_752 dL_law_753 dL_law_754 rfl ?_
  refine g_arg 4 C hX hL hi (by decide) dL_law_755 dL_law_756 dL_law_757 dL_law_758 dL_law_759 rfl ?_
  refine g_arg 5 C hX hL hi (by decide) dL_law_760 dL_law_761 dL_law_762 dL_law_763 dL_law_764 rfl ?_
  refine g_callV (av := [.int (xs (i + 1)), .int (xs (i + 2)), .int (xs (i + 3)), .int (xs (i + 4)), .int (xs (i + 5))]) C dL_law_765 ln_L_77 mf_X1_divide 0 rfl rfl (kX1_divide K ad S (mW K bd M []) (xs (i + 1)) (xs (i + 2)) (xs (i + 3)) (xs (i + 4)) (xs (i + 5)) ) rfl rfl (Nat.le_of_ble_eq_true rfl) ⟨(Nat.le_of_ble_eq_true rfl), (Nat.le_of_ble_eq_true rfl)⟩ ⟨(Nat.le_of_ble_eq_true rfl), (Nat.le_of_ble_eq_true rfl)⟩ (fun _ => ?_)
  refine g_toM ?_
  refine g_aload_n (i := 2) C dL_law_768 rfl rfl ?_
  refine g_arg 1 C hX hL hi (by decide) dL_law_769 dL_law_770 dL_law_771 dL_law_772 dL_law_773 rfl ?_
  refine g_arg 2 C hX hL hi (by decide) dL_law_774 dL_law_775 dL_law_776 dL_law_777 dL_law_778 rfl ?_
  refine g_arg 3 C hX hL hi (by decide) dL_law_779 dL_law_780 dL_law_781 dL_law_782 dL_law_783 rfl ?_
  refine g_arg 4 C hX hL hi (by decide) dL_law_784 dL_law_785 dL_law_786 dL_law_787 dL_law_788 rfl ?_
  refine g_arg 5 C hX hL hi (by decide) dL_law_789 dL_law_790 dL_law_791 dL_law_792 dL_law_793 rfl ?_
  refine g_callV (av := [.int (xs (i + 1)), .int (xs (i + 2)), .int (xs (i + 3)), .int (xs (i + 4)), .int (xs (i + 5))]) C dL_law_794 ln_L_81 mf_X2_divide 0 rfl rfl (kX2_divide K bd M (cW K ad (cDiv S (xs (i + 1)) (xs (i + 2)) (xs (i + 3)) (xs (i + 4)) (xs (i + 5))).2 []) (xs (i + 1)) (xs (i + 2)) (xs (i + 3)) (xs (i + 4)) (xs (i + 5)) hR.hB hR.hA) rfl rfl (Nat.le_of_ble_eq_true rfl) ⟨(Nat.le_of_ble_eq_true rfl), (Nat.le_of_ble_eq_true rfl)⟩ ⟨(Nat.le_of_ble_eq_true rfl), (Nat.le_of_ble_eq_true rfl)⟩ (fun _ => ?_)
  obtain ⟨he, hr2⟩ := eq_divide hR (xs (i + 1)) (xs (i + 2)) (xs (i + 3)) (xs (i + 4)) (xs (i + 5))
  refine g_icmp_eq (tgt := 901) C dL_law_797 (by decide) (fun _ => ?_) (fun q => absurd he q)
  refine g_toC ?_
  exact kk _ _ hr2

set_option maxHeartbeats 1000000 in
set_option maxRecDepth 100000 in
theorem law_order {E : EnvT} {K : KT} {ad bd : Nat → Nat} {S : CS} {M : MSt} {b L i : Nat} {xs : Nat → Int32} (C : Ok E K cL_law RL 4 room_1) (hX : LX E b L xs) (hL : L ≤ 3072) (hi : i + 6 ≤ L) (hR : Rel S M) (kk : ∀ (S2 : CS) (M2 : MSt), Rel S2 M2 → G E K 30 486 (cW K ad S2 (mW K bd M2 [])) (lvL b (ad 0) (bd 0) i) 901 []) : G E K 30 486 (cW K ad S (mW K bd M [])) (lvL b (ad 0) (bd 0) i) 802 [] := by
  refine g_aload_n (i := 1) C dL_law_802 rfl rfl ?_
  refine g_arg 1 C hX hL hi (by decide) dL_law_803 dL_law_804 dL_law_805 dL_law_806 dL_law_807 rfl ?_
  refine g_arg 2 C hX hL hi (by decide) dL_law_808 dL_law_809 dL_law_810 dL_law_811 dL_law_812 rfl ?_
  refine g_callV (av := [.int (xs (i + 1)), .int (xs (i + 2))]) C dL_law_813 ln_L_82 mf_X1_order 0 rfl rfl (kX1_order K ad S (mW K bd M []) (xs (i + 1)) (xs (i + 2)) ) rfl rfl (Nat.le_of_ble_eq_true rfl) ⟨(Nat.le_of_ble_eq_true rfl), (Nat.le_of_ble_eq_true rfl)⟩ ⟨(Nat.le_of_ble_eq_true rfl), (Nat.le_of_ble_eq_true rfl)⟩ (fun _ => ?_)
  refine g_toM ?_
  refine g_aload_n (i := 2) C dL_law_816 rfl rfl ?_
  refine g_arg 1 C hX hL hi (by decide) dL_law_817 dL_law_818 dL_law_819 dL_law_820 dL_law_821 rfl ?_
  refine g_arg 2 C hX hL hi (by decide) dL_law_822 dL_law_823 dL_law_824 dL_law_825 dL_law_826 rfl ?_
  refine g_callV (av := [.int (xs (i + 1)), .int (xs (i + 2))]) C dL_law_827 ln_L_85 mf_X2_order 0 rfl rfl (kX2_order K bd M (cW K ad (cOrd S (xs (i + 1)) (xs (i + 2))).2 []) (xs (i + 1)) (xs (i + 2)) hR.hB) rfl rfl (Nat.le_of_ble_eq_true rfl) ⟨(Nat.le_of_ble_eq_true rfl), (Nat.le_of_ble_eq_true rfl)⟩ ⟨(Nat.le_of_ble_eq_true rfl), (Nat.le_of_ble_eq_true rfl)⟩ (fun _ => ?_)
  obtain ⟨he, hr2⟩ := eq_order hR (xs (i + 1)) (xs (i + 2))
  refine g_icmp_eq (tgt := 901) C dL_law_830 (by decide) (fun _ => ?_) (fun q => absurd he q)
  refine g_toC ?_
  exact kk _ _ hr2

set_option maxHeartbeats 1000000 in
set_option maxRecDepth 100000 in
theorem law_take {E : EnvT} {K : KT} {ad bd : Nat → Nat} {S : CS} {M : MSt} {b L i : Nat} {xs : Nat → Int32} (C : Ok E K cL_law RL 4 room_1) (hX : LX E b L xs) (hL : L ≤ 3072) (hi : i + 6 ≤ L) (hR : Rel S M) (kk : ∀ (S2 : CS) (M2 : MSt), Rel S2 M2 → G E K 30 486 (cW K ad S2 (mW K bd M2 [])) (lvL b (ad 0) (bd 0) i) 901 []) : G E K 30 486 (cW K ad S (mW K bd M [])) (lvL b (ad 0) (bd 0) i) 835 [] := by
  refine g_aload_n (i := 1) C dL_law_835 rfl rfl ?_
  refine g_arg 1 C hX hL hi (by decide) dL_law_836 dL_law_837 dL_law_838 dL_law_839 dL_law_840 rfl ?_
  refine g_arg 2 C hX hL hi (by decide) dL_law_841 dL_law_842 dL_law_843 dL_law_844 dL_law_845 rfl ?_
  refine g_callV (av := [.int (xs (i + 1)), .int (xs (i + 2))]) C dL_law_846 ln_L_86 mf_X1_take 0 rfl rfl (kX1_take K ad S (mW K bd M []) (xs (i + 1)) (xs (i + 2)) ) rfl rfl (Nat.le_of_ble_eq_true rfl) ⟨(Nat.le_of_ble_eq_true rfl), (Nat.le_of_ble_eq_true rfl)⟩ ⟨(Nat.le_of_ble_eq_true rfl), (Nat.le_of_ble_eq_true rfl)⟩ (fun _ => ?_)
  refine g_toM ?_
  refine g_aload_n (i := 2) C dL_law_849 rfl rfl ?_
  refine g_arg 1 C hX hL hi (by decide) dL_law_850 dL_law_851 dL_law_852 dL_law_853 dL_law_854 rfl ?_
  refine g_arg 2 C hX hL hi (by decide) dL_law_855 dL_law_856 dL_law_857 dL_law_858 dL_law_859 rfl ?_
  refine g_callV (av := [.int (xs (i + 1)), .int (xs (i + 2))]) C dL_law_860 ln_L_89 mf_X2_take 0 rfl rfl (kX2_take K bd M (cW K ad (cTake S (xs (i + 1)) (xs (i + 2))).2 []) (xs (i + 1)) (xs (i + 2)) hR.hd) rfl rfl (Nat.le_of_ble_eq_true rfl) ⟨(Nat.le_of_ble_eq_true rfl), (Nat.le_of_ble_eq_true rfl)⟩ ⟨(Nat.le_of_ble_eq_true rfl), (Nat.le_of_ble_eq_true rfl)⟩ (fun _ => ?_)
  obtain ⟨he, hr2⟩ := eq_take hR (xs (i + 1)) (xs (i + 2))
  refine g_icmp_eq (tgt := 901) C dL_law_863 (by decide) (fun _ => ?_) (fun q => absurd he q)
  refine g_toC ?_
  exact kk _ _ hr2

set_option maxHeartbeats 1000000 in
set_option maxRecDepth 100000 in
theorem law_near {E : EnvT} {K : KT} {ad bd : Nat → Nat} {S : CS} {M : MSt} {b L i : Nat} {xs : Nat → Int32} (C : Ok E K cL_law RL 4 room_1) (hX : LX E b L xs) (hL : L ≤ 3072) (hi : i + 6 ≤ L) (hR : Rel S M) (kk : ∀ (S2 : CS) (M2 : MSt), Rel S2 M2 → G E K 30 486 (cW K ad S2 (mW K bd M2 [])) (lvL b (ad 0) (bd 0) i) 901 []) : G E K 30 486 (cW K ad S (mW K bd M [])) (lvL b (ad 0) (bd 0) i) 868 [] := by
  refine g_aload_n (i := 1) C dL_law_868 rfl rfl ?_
  refine g_arg 1 C hX hL hi (by decide) dL_law_869 dL_law_870 dL_law_871 dL_law_872 dL_law_873 rfl ?_
  refine g_arg 2 C hX hL hi (by decide) dL_law_874 dL_law_875 dL_law_876 dL_law_877 dL_law_878 rfl ?_
  refine g_callV (av := [.int (xs (i + 1)), .int (xs (i + 2))]) C dL_law_879 ln_L_90 mf_X1_near 0 rfl rfl (kX1_near K ad S (mW K bd M []) (xs (i + 1)) (xs (i + 2)) ) rfl rfl (Nat.le_of_ble_eq_true rfl) ⟨(Nat.le_of_ble_eq_true rfl), (Nat.le_of_ble_eq_true rfl)⟩ ⟨(Nat.le_of_ble_eq_true rfl), (Nat.le_of_ble_eq_true rfl)⟩ (fun _ => ?_)
  refine g_toM ?_
  refine g_aload_n (i := 2) C dL_law_882 rfl rfl ?_
  refine g_arg 1 C hX hL hi (by decide) dL_law_883 dL_law_884 dL_law_885 dL_law_886 dL_law_887 rfl ?_
  refine g_arg 2 C hX hL hi (by decide) dL_law_888 dL_law_889 dL_law_890 dL_law_891 dL_law_892 rfl ?_
  refine g_callV (av := [.int (xs (i + 1)), .int (xs (i + 2))]) C dL_law_893 ln_L_93 mf_X2_near 0 rfl rfl (kX2_near K bd M (cW K ad (cNear S (xs (i + 1)) (xs (i + 2))).2 []) (xs (i + 1)) (xs (i + 2)) hR.hB) rfl rfl (Nat.le_of_ble_eq_true rfl) ⟨(Nat.le_of_ble_eq_true rfl), (Nat.le_of_ble_eq_true rfl)⟩ ⟨(Nat.le_of_ble_eq_true rfl), (Nat.le_of_ble_eq_true rfl)⟩ (fun _ => ?_)
  obtain ⟨he, hr2⟩ := eq_near hR (xs (i + 1)) (xs (i + 2))
  refine g_icmp_eq (tgt := 901) C dL_law_896 (by decide) (fun _ => ?_) (fun q => absurd he q)
  refine g_toC ?_
  exact kk _ _ hr2
theorem lt6 {L i : Nat} (hL : L ≤ 3072) (hi : i ≤ 3072) (h : ¬ nI L - 6 < nI i) : i + 6 ≤ L := by
  rw [Int32.lt_iff_toInt_lt, e_int (k := 6) (by omega) rfl (by decide), nI_toInt (by omega)] at h
  omega
set_option maxHeartbeats 1000000 in
set_option maxRecDepth 100000 in
theorem law_loop {E : EnvT} {K : KT} {ad bd : Nat → Nat} {b L : Nat} {xs : Nat → Int32} (C : Ok E K cL_law RL 4 room_1) (hX : LX E b L xs) (hL : L ≤ 3072) (hF : ∀ (Wd : va_W) (lv : LV), G E K 30 486 Wd lv 907 []) : ∀ (n i : Nat) (S : CS) (M : MSt), i ≤ L → L < i + n → Rel S M → G E K 30 486 (cW K ad S (mW K bd M [])) (lvL b (ad 0) (bd 0) i) 18 [] := by
  intro n
  induction n with
  | zero => intro i S M h1 h2; omega
  | succ n ih =>
    intro i S M hi hn hR
    refine g_iload_n (i := 3) C dL_law_18 rfl rfl ?_
    refine g_aload_n (i := 0) C dL_law_19 rfl rfl ?_
    refine g_slen C hX dL_law_20 ?_
    refine g_bipush (v := 6) C dL_law_21 (by decide) ?_
    refine g_isub C dL_law_23 ?_
    refine g_icmp_gt (tgt := 907) C dL_law_24 (by decide) (fun _ => hF _ _) (fun c24 => ?_)
    have h6 : i + 6 ≤ L := lt6 hL (by omega) c24
    have kk : ∀ (S2 : CS) (M2 : MSt), Rel S2 M2 → G E K 30 486 (cW K ad S2 (mW K bd M2 [])) (lvL b (ad 0) (bd 0) i) 901 [] := by
      intro S2 M2 hR2
      refine g_iinc (v := nI (i + 6)) (lv2 := lvL b (ad 0) (bd 0) (i + 6)) C dL_law_901 rfl (nI_add i 6) (by decide) rfl ?_
      refine g_goto (tgt := 18) C dL_law_904 (by decide) ?_
      exact ih (i + 6) S2 M2 h6 (by omega) hR2
    refine g_aload_n (i := 0) C dL_law_27 rfl rfl ?_
    refine g_iload_n (i := 3) C dL_law_28 rfl rfl ?_
    refine g_sld C hX dL_law_29 (vp_in_nI (by omega) (by omega)) ?_
    refine g_bipush (v := 31) C dL_law_30 (by decide) ?_
    refine g_iand C dL_law_32 ?_
    obtain ⟨j, hj, ej⟩ := pk_andE (xs (nI i).toNatClampNeg) (m := 31) 5 (by decide)
    refine g_eqi ej ?_
    have et : (nI j).toInt = j := nI_toInt (by omega)
    by_cases h19 : 19 ≤ j
    · exact g_tout (tgt := 901) C dL_law_33 (by rw [et]; omega) (by decide) (kk S M hR)
    · have hj19 : j < 19 := by omega
      clear h19 ej hj et
      match j, hj19 with
      | 0, _ => exact g_tin (tgt := 124) (off := 91) C dL_law_33 (by decide) (by decide) (by decide) (by decide) (law_row C hX hL h6 hR kk)
      | 1, _ => exact g_tin (tgt := 167) (off := 134) C dL_law_33 (by decide) (by decide) (by decide) (by decide) (law_number C hX hL h6 hR kk)
      | 2, _ => exact g_tin (tgt := 210) (off := 177) C dL_law_33 (by decide) (by decide) (by decide) (by decide) (law_at C hX hL h6 hR kk)
      | 3, _ => exact g_tin (tgt := 243) (off := 210) C dL_law_33 (by decide) (by decide) (by decide) (by decide) (law_value C hX hL h6 hR kk)
      | 4, _ => exact g_tin (tgt := 276) (off := 243) C dL_law_33 (by decide) (by decide) (by decide) (by decide) (law_against C hX hL h6 hR kk)
      | 5, _ => exact g_tin (tgt := 309) (off := 276) C dL_law_33 (by decide) (by decide) (by decide) (by decide) (law_work C hX hL h6 hR kk)
      | 6, _ => exact g_tin (tgt := 362) (off := 329) C dL_law_33 (by decide) (by decide) (by decide) (by decide) (law_side C hX hL h6 hR kk)
      | 7, _ => exact g_tin (tgt := 405) (off := 372) C dL_law_33 (by decide) (by decide) (by decide) (by decide) (law_cut C hX hL h6 hR kk)
      | 8, _ => exact g_tin (tgt := 448) (off := 415) C dL_law_33 (by decide) (by decide) (by decide) (by decide) (law_pair C hX hL h6 hR kk)
      | 9, _ => exact g_tin (tgt := 471) (off := 438) C dL_law_33 (by decide) (by decide) (by decide) (by decide) (law_born C hX hL h6 hR kk)
      | 10, _ => exact g_tin (tgt := 514) (off := 481) C dL_law_33 (by decide) (by decide) (by decide) (by decide) (law_between C hX hL h6 hR kk)
      | 11, _ => exact g_tin (tgt := 557) (off := 524) C dL_law_33 (by decide) (by decide) (by decide) (by decide) (law_wins C hX hL h6 hR kk)
      | 12, _ => exact g_tin (tgt := 590) (off := 557) C dL_law_33 (by decide) (by decide) (by decide) (by decide) (law_term C hX hL h6 hR kk)
      | 13, _ => exact g_tin (tgt := 643) (off := 610) C dL_law_33 (by decide) (by decide) (by decide) (by decide) (law_told C hX hL h6 hR kk)
      | 14, _ => exact g_tin (tgt := 686) (off := 653) C dL_law_33 (by decide) (by decide) (by decide) (by decide) (law_sum C hX hL h6 hR kk)
      | 15, _ => exact g_tin (tgt := 739) (off := 706) C dL_law_33 (by decide) (by decide) (by decide) (by decide) (law_divide C hX hL h6 hR kk)
      | 16, _ => exact g_tin (tgt := 802) (off := 769) C dL_law_33 (by decide) (by decide) (by decide) (by decide) (law_order C hX hL h6 hR kk)
      | 17, _ => exact g_tin (tgt := 835) (off := 802) C dL_law_33 (by decide) (by decide) (by decide) (by decide) (law_take C hX hL h6 hR kk)
      | 18, _ => exact g_tin (tgt := 868) (off := 835) C dL_law_33 (by decide) (by decide) (by decide) (by decide) (law_near C hX hL h6 hR kk)
      | n + 19, h => exact absurd h (by omega)
