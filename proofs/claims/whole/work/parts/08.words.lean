def lw_G : List Cond := lw_tbl.filter goodWord
set_option maxRecDepth 20000 in
theorem lw_Gt {w : Cond} (h : w ∈ lw_G) : w ∈ lw_tbl := (List.mem_filter.mp h).1
set_option maxRecDepth 20000 in
theorem lw_gd {w : Cond} (h : w ∈ lw_G) : (w.onTables && w.keeps) = true ∨ ∃ ty, w = .arrayClass ty := good_of_word (List.mem_filter.mp h).2
set_option maxRecDepth 20000 in
theorem lw_gi {ws : List Cond} (h : ∀ w ∈ ws, w ∈ lw_G) : GoodIn lw_G ws := fun w hw => ⟨h w hw, lw_gd (h w hw)⟩
def isNest : Cond → Bool
  | .methodLinkNest .. => true
  | .fieldLinkNest .. => true
  | _ => false
def lw_N : List Cond := lw_tbl.filter isNest
def NW (U : State) : Prop := ∀ w ∈ lw_N, va_Nw w U
theorem NW.warm {s U : State} (hW : s.WarmedH U.vm) (h : NW s) : NW U := fun w hw => by
  have h1 := (List.mem_filter.mp hw).2
  have h2 := h w hw
  cases w <;> first | exact va_Nw.warmM hW h2 | exact va_Nw.warmF hW h2 | (simp [isNest] at h1; done)
theorem NW.same {u U : State} (hv : u.vm = U.vm) (h : NW u) : NW U := fun w hw => by
  have h1 := (List.mem_filter.mp hw).2
  have h2 := h w hw
  cases w <;> first | exact va_Nw.same rfl hv h2 | (simp [isNest] at h1; done)
theorem mwN (i : Nat) {w : Cond} (h : lw_tbl[i]? = some w) (g : isNest w = true) : w ∈ lw_N := List.mem_filter.mpr ⟨List.mem_of_getElem? h, g⟩
set_option maxRecDepth 20000 in
theorem mw (i : Nat) {w : Cond} (h : lw_tbl[i]? = some w) (g : goodWord w = true) : w ∈ lw_G := List.mem_filter.mpr ⟨List.mem_of_getElem? h, g⟩
set_option maxRecDepth 20000 in
theorem fx_X0 : ∀ w ∈ u_ws RX0 TX0 1, w ∈ lw_G := by decide +kernel
set_option maxRecDepth 20000 in
theorem fx_X1 : ∀ w ∈ u_ws RX1 TX1 8, w ∈ lw_G := by decide +kernel
set_option maxRecDepth 20000 in
theorem fx_X2 : ∀ w ∈ u_ws RX2 TX2 10, w ∈ lw_G := by decide +kernel
def Ln (own : String) (index : Nat) (y : MethodName) : Prop := Cond.methodLink own index y ∈ lw_G
def LnN (own : String) (index : Nat) (y : MethodName) : Prop := Cond.methodLinkNest own index y RX1 ∈ lw_N
def MfS (y : MethodName) (cc : ByteArray) (maxL : Nat) (ret : Option FieldType) (n : Nat) : Prop := Cond.code y cc maxL ret ∈ lw_G ∧ Cond.initialized y.cls ∈ lw_G ∧ Cond.static y ∈ lw_G ∧ (y.cls ≠ "java/lang/invoke/MethodHandle" ∧ y.cls ≠ "java/lang/invoke/VarHandle" ∧ (parseMethodDescriptor y.desc).map (fun d => d.parameters.length) = some n)
def MfV (y : MethodName) (cc : ByteArray) (maxL : Nat) (ret : Option FieldType) (n : Nat) : Prop := Cond.code y cc maxL ret ∈ lw_G ∧ Cond.initialized y.cls ∈ lw_G ∧ Cond.instanceMethod y ∈ lw_G ∧ Cond.selects y.cls y y ∈ lw_G ∧ (y.cls ≠ "java/lang/invoke/MethodHandle" ∧ y.cls ≠ "java/lang/invoke/VarHandle" ∧ (parseMethodDescriptor y.desc).map (fun d => d.parameters.length) = some n)
set_option maxRecDepth 20000 in
theorem it_L : Cond.initialized RL ∈ lw_G := mw 30 (by rfl) rfl
set_option maxRecDepth 20000 in
theorem it_X1 : Cond.initialized RX1 ∈ lw_G := mw 31 (by rfl) rfl
set_option maxRecDepth 20000 in
theorem it_X0 : Cond.initialized RX0 ∈ lw_G := mw 32 (by rfl) rfl
set_option maxRecDepth 20000 in
theorem it_X2 : Cond.initialized RX2 ∈ lw_G := mw 33 (by rfl) rfl
set_option maxRecDepth 20000 in
theorem it_J13 : Cond.initialized RJ13 ∈ lw_G := mw 34 (by rfl) rfl
set_option maxRecDepth 20000 in
theorem it_J9 : Cond.initialized "java/lang/Math" ∈ lw_G := mw 35 (by rfl) rfl
set_option maxRecDepth 20000 in
theorem it_J6 : Cond.initialized RJ6 ∈ lw_G := mw 36 (by rfl) rfl
set_option maxRecDepth 20000 in
theorem cl_L_7 : Cond.classLink RL 7 RX1 ∈ lw_G := mw 37 (by rfl) rfl
set_option maxRecDepth 20000 in
theorem in_X1 : Cond.instantiable RX1 8 ∈ lw_G := mw 38 (by rfl) rfl
set_option maxRecDepth 20000 in
theorem ln_L_9 : Ln RL 9 yX1_init := mw 39 (by rfl) rfl
set_option maxRecDepth 20000 in
theorem mfi_X1_init : Cond.code yX1_init cX1_init 2 none ∈ lw_G ∧ Cond.initialized yX1_init.cls ∈ lw_G ∧ Cond.instanceMethod yX1_init ∈ lw_G := ⟨mw 41 (by rfl) rfl, mw 31 (by rfl) rfl, mw 40 (by rfl) rfl⟩
set_option maxRecDepth 20000 in
theorem ln_X1_3 : Cond.methodLink RX1 3 objectInit ∈ lw_G := mw 42 (by rfl) rfl
set_option maxRecDepth 20000 in
theorem oi_code : Cond.code objectInit ⟨#[0xb1]⟩ 1 none ∈ lw_G := mw 44 (by rfl) rfl
set_option maxRecDepth 20000 in
theorem oi_inst : Cond.instanceMethod objectInit ∈ lw_G := mw 43 (by rfl) rfl
set_option maxRecDepth 20000 in
theorem cl_X1_27 : Cond.classLink RX1 27 RX0 ∈ lw_G := mw 45 (by rfl) rfl
set_option maxRecDepth 20000 in
theorem ao_X0 : Cond.arrayOver (.object RX0) ∈ lw_tbl := List.mem_of_getElem? (i := 46) (by rfl)
set_option maxRecDepth 20000 in
theorem in_X0 : Cond.instantiable RX0 1 ∈ lw_G := mw 47 (by rfl) rfl
set_option maxRecDepth 20000 in
theorem ln_X1_33 : LnN RX1 33 yX0_init := mwN 48 (by rfl) rfl
set_option maxRecDepth 20000 in
theorem mfi_X0_init : Cond.code yX0_init cX0_init 1 none ∈ lw_G ∧ Cond.initialized yX0_init.cls ∈ lw_G ∧ Cond.instanceMethod yX0_init ∈ lw_G := ⟨mw 50 (by rfl) rfl, mw 32 (by rfl) rfl, mw 49 (by rfl) rfl⟩
set_option maxRecDepth 20000 in
theorem ln_X0_3 : Cond.methodLink RX0 3 objectInit ∈ lw_G := mw 51 (by rfl) rfl
set_option maxRecDepth 20000 in
theorem ac_int : Cond.arrayClass .int ∈ lw_G := mw 57 (by rfl) rfl
set_option maxRecDepth 20000 in
theorem ac_long : Cond.arrayClass .long ∈ lw_G := mw 58 (by rfl) rfl
set_option maxRecDepth 20000 in
theorem ln_L_13 : Ln RL 13 yX1_row := mw 84 (by rfl) rfl
set_option maxRecDepth 20000 in
theorem mf_X1_row : MfV yX1_row cX1_row 4 (some .int) 3 := ⟨mw 87 (by rfl) rfl, mw 31 (by rfl) rfl, mw 85 (by rfl) rfl, mw 86 (by rfl) rfl, by decide +kernel⟩
set_option maxRecDepth 20000 in
theorem ln_X1_41 : Ln RX1 41 yX1_isRegister := mw 88 (by rfl) rfl
set_option maxRecDepth 20000 in
theorem mf_X1_isRegister : MfS yX1_isRegister cX1_isRegister 1 (some .boolean) 1 := ⟨mw 90 (by rfl) rfl, mw 31 (by rfl) rfl, mw 89 (by rfl) rfl, by decide +kernel⟩
set_option maxRecDepth 20000 in
theorem ln_X1_45 : Ln RX1 45 yX1_hold := mw 91 (by rfl) rfl
set_option maxRecDepth 20000 in
theorem mf_X1_hold : MfV yX1_hold cX1_hold 4 (some .int) 3 := ⟨mw 94 (by rfl) rfl, mw 31 (by rfl) rfl, mw 93 (by rfl) rfl, mw 0 (by rfl) rfl, by decide +kernel⟩
set_option maxRecDepth 20000 in
theorem ln_X1_182 : Ln RX1 182 yX1_worth := mw 95 (by rfl) rfl
set_option maxRecDepth 20000 in
theorem mf_X1_worth : MfS yX1_worth cX1_worth 10 (some .long) 2 := ⟨mw 97 (by rfl) rfl, mw 31 (by rfl) rfl, mw 96 (by rfl) rfl, by decide +kernel⟩
set_option maxRecDepth 20000 in
theorem ln_X1_57 : Ln RX1 57 yX1_isPlus := mw 98 (by rfl) rfl
set_option maxRecDepth 20000 in
theorem mf_X1_isPlus : MfS yX1_isPlus cX1_isPlus 2 (some .boolean) 2 := ⟨mw 100 (by rfl) rfl, mw 31 (by rfl) rfl, mw 99 (by rfl) rfl, by decide +kernel⟩
set_option maxRecDepth 20000 in
theorem ln_X1_106 : Ln RX1 106 yX1_has := mw 101 (by rfl) rfl
set_option maxRecDepth 20000 in
theorem mf_X1_has : MfS yX1_has cX1_has 2 (some .boolean) 2 := ⟨mw 103 (by rfl) rfl, mw 31 (by rfl) rfl, mw 102 (by rfl) rfl, by decide +kernel⟩
set_option maxRecDepth 20000 in
theorem kc_X1_186 : Cond.constantLong RX1 186 (8388608) ∈ lw_G := mw 104 (by rfl) rfl
set_option maxRecDepth 20000 in
theorem kc_X1_188 : Cond.constantLong RX1 188 (2) ∈ lw_G := mw 105 (by rfl) rfl
set_option maxRecDepth 20000 in
theorem ln_L_18 : Ln RL 18 yX1_number := mw 106 (by rfl) rfl
set_option maxRecDepth 20000 in
theorem mf_X1_number : MfV yX1_number cX1_number 4 (some .int) 3 := ⟨mw 109 (by rfl) rfl, mw 31 (by rfl) rfl, mw 107 (by rfl) rfl, mw 108 (by rfl) rfl, by decide +kernel⟩
set_option maxRecDepth 20000 in
theorem ln_X1_49 : Ln RX1 49 yX1_isFraction := mw 110 (by rfl) rfl
set_option maxRecDepth 20000 in
theorem mf_X1_isFraction : MfS yX1_isFraction cX1_isFraction 2 (some .boolean) 2 := ⟨mw 112 (by rfl) rfl, mw 31 (by rfl) rfl, mw 111 (by rfl) rfl, by decide +kernel⟩
set_option maxRecDepth 20000 in
theorem kc_X1_60 : Cond.constant RX1 60 (-1000000000) ∈ lw_G := mw 113 (by rfl) rfl
set_option maxRecDepth 20000 in
theorem kc_X1_161 : Cond.constant RX1 161 (1000000000) ∈ lw_G := mw 114 (by rfl) rfl
set_option maxRecDepth 20000 in
theorem ln_X1_53 : Ln RX1 53 yX1_holdValue := mw 115 (by rfl) rfl
set_option maxRecDepth 20000 in
theorem mf_X1_holdValue : MfV yX1_holdValue cX1_holdValue 4 (some .int) 2 := ⟨mw 118 (by rfl) rfl, mw 31 (by rfl) rfl, mw 117 (by rfl) rfl, mw 1 (by rfl) rfl, by decide +kernel⟩
set_option maxRecDepth 20000 in
theorem ln_X1_92 : Ln RX1 92 yX1_holdSimplest := mw 119 (by rfl) rfl
set_option maxRecDepth 20000 in
theorem mf_X1_holdSimplest : MfV yX1_holdSimplest cX1_holdSimplest 10 (some .int) 3 := ⟨mw 122 (by rfl) rfl, mw 31 (by rfl) rfl, mw 121 (by rfl) rfl, mw 2 (by rfl) rfl, by decide +kernel⟩
set_option maxRecDepth 20000 in
theorem ln_L_22 : Ln RL 22 yX1_at := mw 123 (by rfl) rfl
set_option maxRecDepth 20000 in
theorem mf_X1_at : MfV yX1_at cX1_at 3 (some .int) 2 := ⟨mw 126 (by rfl) rfl, mw 31 (by rfl) rfl, mw 124 (by rfl) rfl, mw 125 (by rfl) rfl, by decide +kernel⟩
set_option maxRecDepth 20000 in
theorem ln_L_27 : Ln RL 27 yX1_value := mw 127 (by rfl) rfl
set_option maxRecDepth 20000 in
theorem mf_X1_value : MfV yX1_value cX1_value 3 (some .int) 2 := ⟨mw 130 (by rfl) rfl, mw 31 (by rfl) rfl, mw 128 (by rfl) rfl, mw 129 (by rfl) rfl, by decide +kernel⟩
set_option maxRecDepth 20000 in
theorem ln_X1_61 : Ln RX1 61 yX1_leastAbove := mw 131 (by rfl) rfl
set_option maxRecDepth 20000 in
theorem mf_X1_leastAbove : MfS yX1_leastAbove cX1_leastAbove 3 (some .int) 2 := ⟨mw 133 (by rfl) rfl, mw 31 (by rfl) rfl, mw 132 (by rfl) rfl, by decide +kernel⟩
set_option maxRecDepth 20000 in
theorem ln_X1_65 : Ln RX1 65 yX1_leastBelow := mw 134 (by rfl) rfl
set_option maxRecDepth 20000 in
theorem mf_X1_leastBelow : MfS yX1_leastBelow cX1_leastBelow 3 (some .int) 2 := ⟨mw 136 (by rfl) rfl, mw 31 (by rfl) rfl, mw 135 (by rfl) rfl, by decide +kernel⟩
set_option maxRecDepth 20000 in
theorem ln_X1_172 : Ln RX1 172 yX1_halvings := mw 137 (by rfl) rfl
set_option maxRecDepth 20000 in
theorem mf_X1_halvings : MfS yX1_halvings cX1_halvings 2 (some .int) 1 := ⟨mw 139 (by rfl) rfl, mw 31 (by rfl) rfl, mw 138 (by rfl) rfl, by decide +kernel⟩
set_option maxRecDepth 20000 in
theorem ln_X1_168 : Ln RX1 168 yJ13_bitCount_95d88 := mw 140 (by rfl) rfl
set_option maxRecDepth 20000 in
theorem mf_J13_bitCount_95d88 : MfS yJ13_bitCount_95d88 cJ13_bitCount_95d88 2 (some .int) 1 := ⟨mw 142 (by rfl) rfl, mw 34 (by rfl) rfl, mw 141 (by rfl) rfl, by decide +kernel⟩
set_option maxRecDepth 20000 in
theorem kc_J13_314 : Cond.constantLong RJ13 314 (6148914691236517205) ∈ lw_G := mw 143 (by rfl) rfl
set_option maxRecDepth 20000 in
theorem kc_J13_316 : Cond.constantLong RJ13 316 (3689348814741910323) ∈ lw_G := mw 144 (by rfl) rfl
set_option maxRecDepth 20000 in
theorem kc_J13_318 : Cond.constantLong RJ13 318 (1085102592571150095) ∈ lw_G := mw 145 (by rfl) rfl
set_option maxRecDepth 20000 in
theorem ln_X1_175 : Cond.methodLink RX1 175 Lib.Math.max.name ∈ lw_G := mw 146 (by rfl) rfl
set_option maxRecDepth 20000 in
theorem ma_mmax_c : Cond.code Lib.Math.max.name Lib.Math.max.code 2 (some .int) ∈ lw_G := mw 148 (by decide +kernel) rfl
set_option maxRecDepth 20000 in
theorem ma_mmax_s : Cond.static Lib.Math.max.name ∈ lw_G := mw 147 (by rfl) rfl
set_option maxRecDepth 20000 in
theorem ln_L_31 : Ln RL 31 yX1_against := mw 149 (by rfl) rfl
set_option maxRecDepth 20000 in
theorem mf_X1_against : MfV yX1_against cX1_against 3 (some .int) 2 := ⟨mw 152 (by rfl) rfl, mw 31 (by rfl) rfl, mw 150 (by rfl) rfl, mw 151 (by rfl) rfl, by decide +kernel⟩
set_option maxRecDepth 20000 in
theorem ln_X1_68 : Ln RX1 68 yX1_signOf := mw 153 (by rfl) rfl
set_option maxRecDepth 20000 in
theorem mf_X1_signOf : MfS yX1_signOf cX1_signOf 2 (some .int) 1 := ⟨mw 155 (by rfl) rfl, mw 31 (by rfl) rfl, mw 154 (by rfl) rfl, by decide +kernel⟩
set_option maxRecDepth 20000 in
theorem ln_L_35 : Ln RL 35 yX1_work := mw 156 (by rfl) rfl
set_option maxRecDepth 20000 in
theorem mf_X1_work : MfV yX1_work cX1_work 5 (some .int) 4 := ⟨mw 159 (by rfl) rfl, mw 31 (by rfl) rfl, mw 157 (by rfl) rfl, mw 158 (by rfl) rfl, by decide +kernel⟩
set_option maxRecDepth 20000 in
theorem ln_X1_72 : Ln RX1 72 yX1_holdProduct := mw 160 (by rfl) rfl
set_option maxRecDepth 20000 in
theorem mf_X1_holdProduct : MfV yX1_holdProduct cX1_holdProduct 4 (some .int) 2 := ⟨mw 163 (by rfl) rfl, mw 31 (by rfl) rfl, mw 162 (by rfl) rfl, mw 3 (by rfl) rfl, by decide +kernel⟩
set_option maxRecDepth 20000 in
theorem ln_L_40 : Ln RL 40 yX1_side := mw 164 (by rfl) rfl
set_option maxRecDepth 20000 in
theorem mf_X1_side : MfV yX1_side cX1_side 6 (some .int) 3 := ⟨mw 167 (by rfl) rfl, mw 31 (by rfl) rfl, mw 165 (by rfl) rfl, mw 166 (by rfl) rfl, by decide +kernel⟩
set_option maxRecDepth 20000 in
theorem ln_X1_75 : Ln RX1 75 yX1_lowBits := mw 168 (by rfl) rfl
set_option maxRecDepth 20000 in
theorem mf_X1_lowBits : MfS yX1_lowBits cX1_lowBits 1 (some .int) 1 := ⟨mw 170 (by rfl) rfl, mw 31 (by rfl) rfl, mw 169 (by rfl) rfl, by decide +kernel⟩
set_option maxRecDepth 20000 in
theorem ln_L_44 : Ln RL 44 yX1_cut := mw 171 (by rfl) rfl
set_option maxRecDepth 20000 in
theorem mf_X1_cut : MfV yX1_cut cX1_cut 4 (some .int) 3 := ⟨mw 174 (by rfl) rfl, mw 31 (by rfl) rfl, mw 172 (by rfl) rfl, mw 173 (by rfl) rfl, by decide +kernel⟩
set_option maxRecDepth 20000 in
theorem ln_X1_79 : Ln RX1 79 yX1_areRegisters := mw 175 (by rfl) rfl
set_option maxRecDepth 20000 in
theorem mf_X1_areRegisters : MfS yX1_areRegisters cX1_areRegisters 1 (some .boolean) 1 := ⟨mw 177 (by rfl) rfl, mw 31 (by rfl) rfl, mw 176 (by rfl) rfl, by decide +kernel⟩
set_option maxRecDepth 20000 in
theorem ln_X1_82 : Ln RX1 82 yX1_findPair := mw 178 (by rfl) rfl
set_option maxRecDepth 20000 in
theorem mf_X1_findPair : MfV yX1_findPair cX1_findPair 5 (some .boolean) 2 := ⟨mw 181 (by rfl) rfl, mw 31 (by rfl) rfl, mw 180 (by rfl) rfl, mw 4 (by rfl) rfl, by decide +kernel⟩
set_option maxRecDepth 20000 in
theorem ln_X1_85 : Ln RX1 85 yX1_leastAboveAll := mw 182 (by rfl) rfl
set_option maxRecDepth 20000 in
theorem mf_X1_leastAboveAll : MfV yX1_leastAboveAll cX1_leastAboveAll 5 (some .long) 1 := ⟨mw 185 (by rfl) rfl, mw 31 (by rfl) rfl, mw 184 (by rfl) rfl, mw 5 (by rfl) rfl, by decide +kernel⟩
set_option maxRecDepth 20000 in
theorem kc_X1_190 : Cond.constantLong RX1 190 (-1152921504606846976) ∈ lw_G := mw 186 (by rfl) rfl
set_option maxRecDepth 20000 in
theorem ln_X1_192 : Cond.methodLink RX1 192 Lib.MathLoose.max_long.x ∈ lw_G := mw 187 (by rfl) rfl
set_option maxRecDepth 20000 in
theorem ma_mmaxL_c : Cond.code Lib.MathLoose.max_long.x Lib.MathLoose.max_long.code 4 (some .long) ∈ lw_G := mw 189 (by decide +kernel) rfl
set_option maxRecDepth 20000 in
theorem ma_mmaxL_s : Cond.static Lib.MathLoose.max_long.x ∈ lw_G := mw 188 (by rfl) rfl
set_option maxRecDepth 20000 in
theorem ln_X1_89 : Ln RX1 89 yX1_greatestBelowAll := mw 190 (by rfl) rfl
set_option maxRecDepth 20000 in
theorem mf_X1_greatestBelowAll : MfV yX1_greatestBelowAll cX1_greatestBelowAll 5 (some .long) 1 := ⟨mw 193 (by rfl) rfl, mw 31 (by rfl) rfl, mw 192 (by rfl) rfl, mw 6 (by rfl) rfl, by decide +kernel⟩
set_option maxRecDepth 20000 in
theorem kc_X1_159 : Cond.constantLong RX1 159 (1152921504606846976) ∈ lw_G := mw 194 (by rfl) rfl
set_option maxRecDepth 20000 in
theorem ln_X1_195 : Cond.methodLink RX1 195 Lib.MathLoose.min_long.x ∈ lw_G := mw 195 (by rfl) rfl
set_option maxRecDepth 20000 in
theorem ma_mminL_c : Cond.code Lib.MathLoose.min_long.x Lib.MathLoose.min_long.code 4 (some .long) ∈ lw_G := mw 197 (by decide +kernel) rfl
set_option maxRecDepth 20000 in
theorem ma_mminL_s : Cond.static Lib.MathLoose.min_long.x ∈ lw_G := mw 196 (by rfl) rfl
set_option maxRecDepth 20000 in
theorem ln_L_48 : Ln RL 48 yX1_pair := mw 198 (by rfl) rfl
set_option maxRecDepth 20000 in
theorem mf_X1_pair : MfV yX1_pair cX1_pair 2 (some .int) 1 := ⟨mw 201 (by rfl) rfl, mw 31 (by rfl) rfl, mw 199 (by rfl) rfl, mw 200 (by rfl) rfl, by decide +kernel⟩
set_option maxRecDepth 20000 in
theorem ln_L_53 : Ln RL 53 yX1_born := mw 202 (by rfl) rfl
set_option maxRecDepth 20000 in
theorem mf_X1_born : MfV yX1_born cX1_born 4 (some .int) 3 := ⟨mw 205 (by rfl) rfl, mw 31 (by rfl) rfl, mw 203 (by rfl) rfl, mw 204 (by rfl) rfl, by decide +kernel⟩
set_option maxRecDepth 20000 in
theorem ln_X1_96 : Ln RX1 96 yX1_isListedDay := mw 206 (by rfl) rfl
set_option maxRecDepth 20000 in
theorem mf_X1_isListedDay : MfS yX1_isListedDay cX1_isListedDay 1 (some .boolean) 1 := ⟨mw 208 (by rfl) rfl, mw 31 (by rfl) rfl, mw 207 (by rfl) rfl, by decide +kernel⟩
set_option maxRecDepth 20000 in
theorem ln_X1_99 : Ln RX1 99 yX1_turnedRound := mw 209 (by rfl) rfl
set_option maxRecDepth 20000 in
theorem mf_X1_turnedRound : MfS yX1_turnedRound cX1_turnedRound 4 (some .int) 2 := ⟨mw 211 (by rfl) rfl, mw 31 (by rfl) rfl, mw 210 (by rfl) rfl, by decide +kernel⟩
set_option maxRecDepth 20000 in
theorem ln_L_57 : Ln RL 57 yX1_between := mw 212 (by rfl) rfl
set_option maxRecDepth 20000 in
theorem mf_X1_between : MfV yX1_between cX1_between 5 (some .int) 3 := ⟨mw 215 (by rfl) rfl, mw 31 (by rfl) rfl, mw 213 (by rfl) rfl, mw 214 (by rfl) rfl, by decide +kernel⟩
set_option maxRecDepth 20000 in
theorem ln_X1_103 : Ln RX1 103 yX1_countLess := mw 216 (by rfl) rfl
set_option maxRecDepth 20000 in
theorem mf_X1_countLess : MfV yX1_countLess cX1_countLess 5 (some .int) 2 := ⟨mw 219 (by rfl) rfl, mw 31 (by rfl) rfl, mw 218 (by rfl) rfl, mw 7 (by rfl) rfl, by decide +kernel⟩
set_option maxRecDepth 20000 in
theorem ln_L_61 : Ln RL 61 yX1_wins := mw 220 (by rfl) rfl
set_option maxRecDepth 20000 in
theorem mf_X1_wins : MfV yX1_wins cX1_wins 7 (some .int) 2 := ⟨mw 223 (by rfl) rfl, mw 31 (by rfl) rfl, mw 221 (by rfl) rfl, mw 222 (by rfl) rfl, by decide +kernel⟩
set_option maxRecDepth 20000 in
theorem ln_X1_109 : Ln RX1 109 yJ6_bitCount_0f7a4 := mw 224 (by rfl) rfl
set_option maxRecDepth 20000 in
theorem mf_J6_bitCount_0f7a4 : MfS yJ6_bitCount_0f7a4 cJ6_bitCount_0f7a4 1 (some .int) 1 := ⟨mw 226 (by rfl) rfl, mw 36 (by rfl) rfl, mw 225 (by rfl) rfl, by decide +kernel⟩
set_option maxRecDepth 20000 in
theorem kc_J6_265 : Cond.constant RJ6 265 (1431655765) ∈ lw_G := mw 227 (by rfl) rfl
set_option maxRecDepth 20000 in
theorem kc_J6_266 : Cond.constant RJ6 266 (858993459) ∈ lw_G := mw 228 (by rfl) rfl
set_option maxRecDepth 20000 in
theorem kc_J6_267 : Cond.constant RJ6 267 (252645135) ∈ lw_G := mw 229 (by rfl) rfl
set_option maxRecDepth 20000 in
theorem ln_L_65 : Ln RL 65 yX1_term := mw 230 (by rfl) rfl
set_option maxRecDepth 20000 in
theorem mf_X1_term : MfV yX1_term cX1_term 5 (some .int) 4 := ⟨mw 233 (by rfl) rfl, mw 31 (by rfl) rfl, mw 231 (by rfl) rfl, mw 232 (by rfl) rfl, by decide +kernel⟩
set_option maxRecDepth 20000 in
theorem ln_X1_114 : Ln RX1 114 yX1_isSum := mw 234 (by rfl) rfl
set_option maxRecDepth 20000 in
theorem mf_X1_isSum : MfS yX1_isSum cX1_isSum 1 (some .boolean) 1 := ⟨mw 236 (by rfl) rfl, mw 31 (by rfl) rfl, mw 235 (by rfl) rfl, by decide +kernel⟩
set_option maxRecDepth 20000 in
theorem ln_X1_117 : Ln RX1 117 yX1_isExponent := mw 237 (by rfl) rfl
set_option maxRecDepth 20000 in
theorem mf_X1_isExponent : MfS yX1_isExponent cX1_isExponent 1 (some .boolean) 1 := ⟨mw 239 (by rfl) rfl, mw 31 (by rfl) rfl, mw 238 (by rfl) rfl, by decide +kernel⟩
set_option maxRecDepth 20000 in
theorem ln_X1_123 : Ln RX1 123 yX1_factorOf := mw 240 (by rfl) rfl
set_option maxRecDepth 20000 in
theorem mf_X1_factorOf : MfS yX1_factorOf cX1_factorOf 6 (some .long) 2 := ⟨mw 242 (by rfl) rfl, mw 31 (by rfl) rfl, mw 241 (by rfl) rfl, by decide +kernel⟩
set_option maxRecDepth 20000 in
theorem kc_X1_178 : Cond.constantLong RX1 178 (-1000000000) ∈ lw_G := mw 243 (by rfl) rfl
set_option maxRecDepth 20000 in
theorem kc_X1_180 : Cond.constantLong RX1 180 (1000000000) ∈ lw_G := mw 244 (by rfl) rfl
set_option maxRecDepth 20000 in
theorem ln_X1_127 : LnN RX1 127 yX0_countTerms := mwN 245 (by rfl) rfl
set_option maxRecDepth 20000 in
theorem mf_X0_countTerms : MfV yX0_countTerms cX0_countTerms 3 (some .int) 0 := ⟨mw 248 (by rfl) rfl, mw 32 (by rfl) rfl, mw 247 (by rfl) rfl, mw 8 (by rfl) rfl, by decide +kernel⟩
set_option maxRecDepth 20000 in
theorem ln_L_69 : Ln RL 69 yX1_told := mw 249 (by rfl) rfl
set_option maxRecDepth 20000 in
theorem mf_X1_told : MfV yX1_told cX1_told 7 (some .int) 3 := ⟨mw 252 (by rfl) rfl, mw 31 (by rfl) rfl, mw 250 (by rfl) rfl, mw 251 (by rfl) rfl, by decide +kernel⟩
set_option maxRecDepth 20000 in
theorem kc_X1_131 : Cond.constant RX1 131 (-1000000001) ∈ lw_G := mw 253 (by rfl) rfl
set_option maxRecDepth 20000 in
theorem ln_X1_132 : LnN RX1 132 yX0_slotOfTerm := mwN 254 (by rfl) rfl
set_option maxRecDepth 20000 in
theorem mf_X0_slotOfTerm : MfV yX0_slotOfTerm cX0_slotOfTerm 4 (some .int) 1 := ⟨mw 257 (by rfl) rfl, mw 32 (by rfl) rfl, mw 256 (by rfl) rfl, mw 9 (by rfl) rfl, by decide +kernel⟩
set_option maxRecDepth 20000 in
theorem kc_X1_135 : Cond.constant RX1 135 (-1000000004) ∈ lw_G := mw 258 (by rfl) rfl
set_option maxRecDepth 20000 in
theorem ln_L_73 : Ln RL 73 yX1_sum := mw 259 (by rfl) rfl
set_option maxRecDepth 20000 in
theorem mf_X1_sum : MfV yX1_sum cX1_sum 6 (some .int) 4 := ⟨mw 262 (by rfl) rfl, mw 31 (by rfl) rfl, mw 260 (by rfl) rfl, mw 261 (by rfl) rfl, by decide +kernel⟩
set_option maxRecDepth 20000 in
theorem ln_X1_136 : LnN RX1 136 yX0_becomeProduct := mwN 263 (by rfl) rfl
set_option maxRecDepth 20000 in
theorem mf_X0_becomeProduct : MfV yX0_becomeProduct cX0_becomeProduct 6 (some .boolean) 2 := ⟨mw 266 (by rfl) rfl, mw 32 (by rfl) rfl, mw 265 (by rfl) rfl, mw 10 (by rfl) rfl, by decide +kernel⟩
set_option maxRecDepth 20000 in
theorem ln_X0_37 : Ln RX0 37 yX0_clear := mw 267 (by rfl) rfl
set_option maxRecDepth 20000 in
theorem mf_X0_clear : MfV yX0_clear cX0_clear 2 none 0 := ⟨mw 270 (by rfl) rfl, mw 32 (by rfl) rfl, mw 269 (by rfl) rfl, mw 11 (by rfl) rfl, by decide +kernel⟩
set_option maxRecDepth 20000 in
theorem ln_X0_40 : Ln RX0 40 yX0_putProducts := mw 271 (by rfl) rfl
set_option maxRecDepth 20000 in
theorem mf_X0_putProducts : MfV yX0_putProducts cX0_putProducts 8 (some .boolean) 3 := ⟨mw 274 (by rfl) rfl, mw 32 (by rfl) rfl, mw 273 (by rfl) rfl, mw 12 (by rfl) rfl, by decide +kernel⟩
set_option maxRecDepth 20000 in
theorem ln_X0_25 : LnN RX0 25 yX1_factorProduct := mwN 275 (by rfl) rfl
set_option maxRecDepth 20000 in
theorem mf_X1_factorProduct : MfS yX1_factorProduct cX1_factorProduct 6 (some .long) 2 := ⟨mw 277 (by rfl) rfl, mw 31 (by rfl) rfl, mw 276 (by rfl) rfl, by decide +kernel⟩
set_option maxRecDepth 20000 in
theorem ln_X0_29 : Ln RX0 29 yX0_put := mw 278 (by rfl) rfl
set_option maxRecDepth 20000 in
theorem mf_X0_put : MfV yX0_put cX0_put 7 (some .boolean) 2 := ⟨mw 281 (by rfl) rfl, mw 32 (by rfl) rfl, mw 280 (by rfl) rfl, mw 13 (by rfl) rfl, by decide +kernel⟩
set_option maxRecDepth 20000 in
theorem ln_X0_15 : LnN RX0 15 yX1_isExponent := mwN 282 (by rfl) rfl
set_option maxRecDepth 20000 in
theorem kc_X0_19 : Cond.constantLong RX0 19 (1152921504606846976) ∈ lw_G := mw 283 (by rfl) rfl
set_option maxRecDepth 20000 in
theorem ln_X0_21 : LnN RX0 21 yX1_factorOf := mwN 284 (by rfl) rfl
set_option maxRecDepth 20000 in
theorem ln_X1_140 : LnN RX1 140 yX0_becomeTogether := mwN 285 (by rfl) rfl
set_option maxRecDepth 20000 in
theorem mf_X0_becomeTogether : MfV yX0_becomeTogether cX0_becomeTogether 7 (some .boolean) 3 := ⟨mw 288 (by rfl) rfl, mw 32 (by rfl) rfl, mw 287 (by rfl) rfl, mw 14 (by rfl) rfl, by decide +kernel⟩
set_option maxRecDepth 20000 in
theorem ln_X0_33 : Ln RX0 33 yX0_become := mw 289 (by rfl) rfl
set_option maxRecDepth 20000 in
theorem mf_X0_become : MfV yX0_become cX0_become 3 none 1 := ⟨mw 292 (by rfl) rfl, mw 32 (by rfl) rfl, mw 291 (by rfl) rfl, mw 15 (by rfl) rfl, by decide +kernel⟩
set_option maxRecDepth 20000 in
theorem ln_X1_144 : LnN RX1 144 yX0_become := mwN 293 (by rfl) rfl
set_option maxRecDepth 20000 in
theorem ln_L_77 : Ln RL 77 yX1_divide := mw 294 (by rfl) rfl
set_option maxRecDepth 20000 in
theorem mf_X1_divide : MfV yX1_divide cX1_divide 10 (some .int) 5 := ⟨mw 297 (by rfl) rfl, mw 31 (by rfl) rfl, mw 295 (by rfl) rfl, mw 296 (by rfl) rfl, by decide +kernel⟩
set_option maxRecDepth 20000 in
theorem ln_X1_148 : Ln RX1 148 yX1_isPowerOfTwo := mw 298 (by rfl) rfl
set_option maxRecDepth 20000 in
theorem mf_X1_isPowerOfTwo : MfS yX1_isPowerOfTwo cX1_isPowerOfTwo 2 (some .boolean) 1 := ⟨mw 300 (by rfl) rfl, mw 31 (by rfl) rfl, mw 299 (by rfl) rfl, by decide +kernel⟩
set_option maxRecDepth 20000 in
theorem ln_X1_162 : Cond.methodLink RX1 162 Lib.MathLoose.abs_long.x ∈ lw_G := mw 301 (by rfl) rfl
set_option maxRecDepth 20000 in
theorem ma_mabsL_c : Cond.code Lib.MathLoose.abs_long.x Lib.MathLoose.abs_long.code 2 (some .long) ∈ lw_G := mw 303 (by decide +kernel) rfl
set_option maxRecDepth 20000 in
theorem ma_mabsL_s : Cond.static Lib.MathLoose.abs_long.x ∈ lw_G := mw 302 (by rfl) rfl
set_option maxRecDepth 20000 in
theorem ln_X1_152 : LnN RX1 152 yX0_clear := mwN 304 (by rfl) rfl
set_option maxRecDepth 20000 in
theorem ln_X1_155 : Ln RX1 155 yX1_divideOnce := mw 305 (by rfl) rfl
set_option maxRecDepth 20000 in
theorem mf_X1_divideOnce : MfV yX1_divideOnce cX1_divideOnce 7 (some .boolean) 3 := ⟨mw 308 (by rfl) rfl, mw 31 (by rfl) rfl, mw 307 (by rfl) rfl, mw 16 (by rfl) rfl, by decide +kernel⟩
set_option maxRecDepth 20000 in
theorem ln_X1_198 : Ln RX1 198 yX1_factorQuotient := mw 309 (by rfl) rfl
set_option maxRecDepth 20000 in
theorem mf_X1_factorQuotient : MfS yX1_factorQuotient cX1_factorQuotient 4 (some .long) 2 := ⟨mw 311 (by rfl) rfl, mw 31 (by rfl) rfl, mw 310 (by rfl) rfl, by decide +kernel⟩
set_option maxRecDepth 20000 in
theorem ln_X1_201 : LnN RX1 201 yX0_put := mwN 312 (by rfl) rfl
set_option maxRecDepth 20000 in
theorem ln_X1_205 : LnN RX1 205 yX0_putProducts := mwN 313 (by rfl) rfl
set_option maxRecDepth 20000 in
theorem ln_L_82 : Ln RL 82 yX1_order := mw 314 (by rfl) rfl
set_option maxRecDepth 20000 in
theorem mf_X1_order : MfV yX1_order cX1_order 4 (some .int) 2 := ⟨mw 317 (by rfl) rfl, mw 31 (by rfl) rfl, mw 315 (by rfl) rfl, mw 316 (by rfl) rfl, by decide +kernel⟩
set_option maxRecDepth 20000 in
theorem ln_L_86 : Ln RL 86 yX1_take := mw 318 (by rfl) rfl
set_option maxRecDepth 20000 in
theorem mf_X1_take : MfV yX1_take cX1_take 5 (some .int) 2 := ⟨mw 321 (by rfl) rfl, mw 31 (by rfl) rfl, mw 319 (by rfl) rfl, mw 320 (by rfl) rfl, by decide +kernel⟩
set_option maxRecDepth 20000 in
theorem ln_L_90 : Ln RL 90 yX1_near := mw 322 (by rfl) rfl
set_option maxRecDepth 20000 in
theorem mf_X1_near : MfV yX1_near cX1_near 3 (some .int) 2 := ⟨mw 325 (by rfl) rfl, mw 31 (by rfl) rfl, mw 323 (by rfl) rfl, mw 324 (by rfl) rfl, by decide +kernel⟩
set_option maxRecDepth 20000 in
theorem cl_L_10 : Cond.classLink RL 10 RX2 ∈ lw_G := mw 326 (by rfl) rfl
set_option maxRecDepth 20000 in
theorem in_X2 : Cond.instantiable RX2 10 ∈ lw_G := mw 327 (by rfl) rfl
set_option maxRecDepth 20000 in
theorem ln_L_12 : Ln RL 12 yX2_init := mw 328 (by rfl) rfl
set_option maxRecDepth 20000 in
theorem mfi_X2_init : Cond.code yX2_init cX2_init 1 none ∈ lw_G ∧ Cond.initialized yX2_init.cls ∈ lw_G ∧ Cond.instanceMethod yX2_init ∈ lw_G := ⟨mw 330 (by rfl) rfl, mw 33 (by rfl) rfl, mw 329 (by rfl) rfl⟩
set_option maxRecDepth 20000 in
theorem ln_X2_1 : Cond.methodLink RX2 1 objectInit ∈ lw_G := mw 331 (by rfl) rfl
set_option maxRecDepth 20000 in
theorem ln_L_17 : Ln RL 17 yX2_row := mw 363 (by rfl) rfl
set_option maxRecDepth 20000 in
theorem mf_X2_row : MfV yX2_row cX2_row 4 (some .int) 3 := ⟨mw 366 (by rfl) rfl, mw 33 (by rfl) rfl, mw 364 (by rfl) rfl, mw 365 (by rfl) rfl, by decide +kernel⟩
set_option maxRecDepth 20000 in
theorem ln_X2_52 : Ln RX2 52 yX2_isRegister := mw 367 (by rfl) rfl
set_option maxRecDepth 20000 in
theorem mf_X2_isRegister : MfS yX2_isRegister cX2_isRegister 1 (some .boolean) 1 := ⟨mw 369 (by rfl) rfl, mw 33 (by rfl) rfl, mw 368 (by rfl) rfl, by decide +kernel⟩
set_option maxRecDepth 20000 in
theorem kc_X2_30 : Cond.constantLong RX2 30 (11) ∈ lw_G := mw 370 (by rfl) rfl
set_option maxRecDepth 20000 in
theorem ln_X2_32 : Ln RX2 32 yX2_in := mw 371 (by rfl) rfl
set_option maxRecDepth 20000 in
theorem mf_X2_in : MfS yX2_in cX2_in 6 (some .boolean) 3 := ⟨mw 373 (by rfl) rfl, mw 33 (by rfl) rfl, mw 372 (by rfl) rfl, by decide +kernel⟩
set_option maxRecDepth 20000 in
theorem kc_X2_56 : Cond.constantLong RX2 56 (24) ∈ lw_G := mw 374 (by rfl) rfl
set_option maxRecDepth 20000 in
theorem ln_L_21 : Ln RL 21 yX2_number := mw 375 (by rfl) rfl
set_option maxRecDepth 20000 in
theorem mf_X2_number : MfV yX2_number cX2_number 4 (some .int) 3 := ⟨mw 378 (by rfl) rfl, mw 33 (by rfl) rfl, mw 376 (by rfl) rfl, mw 377 (by rfl) rfl, by decide +kernel⟩
set_option maxRecDepth 20000 in
theorem kc_X2_58 : Cond.constantLong RX2 58 (-1000000000) ∈ lw_G := mw 379 (by rfl) rfl
set_option maxRecDepth 20000 in
theorem kc_X2_60 : Cond.constantLong RX2 60 (1000000000) ∈ lw_G := mw 380 (by rfl) rfl
set_option maxRecDepth 20000 in
theorem kc_X2_62 : Cond.constantLong RX2 62 (20) ∈ lw_G := mw 381 (by rfl) rfl
set_option maxRecDepth 20000 in
theorem ln_X2_64 : Ln RX2 64 yX2_has := mw 382 (by rfl) rfl
set_option maxRecDepth 20000 in
theorem mf_X2_has : MfV yX2_has cX2_has 11 (some .boolean) 2 := ⟨mw 385 (by rfl) rfl, mw 33 (by rfl) rfl, mw 384 (by rfl) rfl, mw 17 (by rfl) rfl, by decide +kernel⟩
set_option maxRecDepth 20000 in
theorem kc_X2_38 : Cond.constantLong RX2 38 (2) ∈ lw_G := mw 386 (by rfl) rfl
set_option maxRecDepth 20000 in
theorem kc_X2_50 : Cond.constantLong RX2 50 (25) ∈ lw_G := mw 387 (by rfl) rfl
set_option maxRecDepth 20000 in
theorem kc_X2_36 : Cond.constantLong RX2 36 (16777216) ∈ lw_G := mw 388 (by rfl) rfl
set_option maxRecDepth 20000 in
theorem ln_X2_40 : Ln RX2 40 yX2_worth := mw 389 (by rfl) rfl
set_option maxRecDepth 20000 in
theorem mf_X2_worth : MfS yX2_worth cX2_worth 9 (some .long) 2 := ⟨mw 391 (by rfl) rfl, mw 33 (by rfl) rfl, mw 390 (by rfl) rfl, by decide +kernel⟩
set_option maxRecDepth 20000 in
theorem ln_X2_68 : Ln RX2 68 yX2_keeps := mw 392 (by rfl) rfl
set_option maxRecDepth 20000 in
theorem mf_X2_keeps : MfV yX2_keeps cX2_keeps 3 (some .int) 2 := ⟨mw 395 (by rfl) rfl, mw 33 (by rfl) rfl, mw 394 (by rfl) rfl, mw 18 (by rfl) rfl, by decide +kernel⟩
set_option maxRecDepth 20000 in
theorem ln_L_26 : Ln RL 26 yX2_at := mw 396 (by rfl) rfl
set_option maxRecDepth 20000 in
theorem mf_X2_at : MfV yX2_at cX2_at 3 (some .int) 2 := ⟨mw 399 (by rfl) rfl, mw 33 (by rfl) rfl, mw 397 (by rfl) rfl, mw 398 (by rfl) rfl, by decide +kernel⟩
set_option maxRecDepth 20000 in
theorem ln_L_30 : Ln RL 30 yX2_value := mw 400 (by rfl) rfl
set_option maxRecDepth 20000 in
theorem mf_X2_value : MfV yX2_value cX2_value 6 (some .int) 2 := ⟨mw 403 (by rfl) rfl, mw 33 (by rfl) rfl, mw 401 (by rfl) rfl, mw 402 (by rfl) rfl, by decide +kernel⟩
set_option maxRecDepth 20000 in
theorem kc_X2_72 : Cond.constant RX2 72 (-1000000000) ∈ lw_G := mw 404 (by rfl) rfl
set_option maxRecDepth 20000 in
theorem ln_X2_73 : Ln RX2 73 yX2_worthOf := mw 405 (by rfl) rfl
set_option maxRecDepth 20000 in
theorem mf_X2_worthOf : MfV yX2_worthOf cX2_worthOf 2 (some .long) 1 := ⟨mw 408 (by rfl) rfl, mw 33 (by rfl) rfl, mw 407 (by rfl) rfl, mw 19 (by rfl) rfl, by decide +kernel⟩
set_option maxRecDepth 20000 in
theorem ln_L_34 : Ln RL 34 yX2_against := mw 409 (by rfl) rfl
set_option maxRecDepth 20000 in
theorem mf_X2_against : MfV yX2_against cX2_against 3 (some .int) 2 := ⟨mw 412 (by rfl) rfl, mw 33 (by rfl) rfl, mw 410 (by rfl) rfl, mw 411 (by rfl) rfl, by decide +kernel⟩
set_option maxRecDepth 20000 in
theorem ln_X2_77 : Ln RX2 77 yX2_compare := mw 413 (by rfl) rfl
set_option maxRecDepth 20000 in
theorem mf_X2_compare : MfS yX2_compare cX2_compare 4 (some .int) 2 := ⟨mw 415 (by rfl) rfl, mw 33 (by rfl) rfl, mw 414 (by rfl) rfl, by decide +kernel⟩
set_option maxRecDepth 20000 in
theorem ln_L_39 : Ln RL 39 yX2_work := mw 416 (by rfl) rfl
set_option maxRecDepth 20000 in
theorem mf_X2_work : MfV yX2_work cX2_work 9 (some .int) 4 := ⟨mw 419 (by rfl) rfl, mw 33 (by rfl) rfl, mw 417 (by rfl) rfl, mw 418 (by rfl) rfl, by decide +kernel⟩
set_option maxRecDepth 20000 in
theorem kc_X2_81 : Cond.constantLong RX2 81 (3) ∈ lw_G := mw 420 (by rfl) rfl
set_option maxRecDepth 20000 in
theorem ln_L_43 : Ln RL 43 yX2_side := mw 421 (by rfl) rfl
set_option maxRecDepth 20000 in
theorem mf_X2_side : MfV yX2_side cX2_side 5 (some .int) 3 := ⟨mw 424 (by rfl) rfl, mw 33 (by rfl) rfl, mw 422 (by rfl) rfl, mw 423 (by rfl) rfl, by decide +kernel⟩
set_option maxRecDepth 20000 in
theorem ln_L_47 : Ln RL 47 yX2_cut := mw 425 (by rfl) rfl
set_option maxRecDepth 20000 in
theorem mf_X2_cut : MfV yX2_cut cX2_cut 12 (some .int) 3 := ⟨mw 428 (by rfl) rfl, mw 33 (by rfl) rfl, mw 426 (by rfl) rfl, mw 427 (by rfl) rfl, by decide +kernel⟩
set_option maxRecDepth 20000 in
theorem kc_X2_83 : Cond.constantLong RX2 83 (4095) ∈ lw_G := mw 429 (by rfl) rfl
set_option maxRecDepth 20000 in
theorem ln_X2_85 : Ln RX2 85 yX2_finds := mw 430 (by rfl) rfl
set_option maxRecDepth 20000 in
theorem mf_X2_finds : MfV yX2_finds cX2_finds 9 (some .boolean) 4 := ⟨mw 433 (by rfl) rfl, mw 33 (by rfl) rfl, mw 432 (by rfl) rfl, mw 20 (by rfl) rfl, by decide +kernel⟩
set_option maxRecDepth 20000 in
theorem ln_L_52 : Ln RL 52 yX2_pair := mw 434 (by rfl) rfl
set_option maxRecDepth 20000 in
theorem mf_X2_pair : MfV yX2_pair cX2_pair 2 (some .int) 1 := ⟨mw 437 (by rfl) rfl, mw 33 (by rfl) rfl, mw 435 (by rfl) rfl, mw 436 (by rfl) rfl, by decide +kernel⟩
set_option maxRecDepth 20000 in
theorem ln_L_56 : Ln RL 56 yX2_born := mw 438 (by rfl) rfl
set_option maxRecDepth 20000 in
theorem mf_X2_born : MfV yX2_born cX2_born 5 (some .int) 3 := ⟨mw 441 (by rfl) rfl, mw 33 (by rfl) rfl, mw 439 (by rfl) rfl, mw 440 (by rfl) rfl, by decide +kernel⟩
set_option maxRecDepth 20000 in
theorem ln_L_60 : Ln RL 60 yX2_between := mw 442 (by rfl) rfl
set_option maxRecDepth 20000 in
theorem mf_X2_between : MfV yX2_between cX2_between 4 (some .int) 3 := ⟨mw 445 (by rfl) rfl, mw 33 (by rfl) rfl, mw 443 (by rfl) rfl, mw 444 (by rfl) rfl, by decide +kernel⟩
set_option maxRecDepth 20000 in
theorem ln_X2_93 : Ln RX2 93 yX2_lesser := mw 446 (by rfl) rfl
set_option maxRecDepth 20000 in
theorem mf_X2_lesser : MfV yX2_lesser cX2_lesser 5 (some .int) 2 := ⟨mw 449 (by rfl) rfl, mw 33 (by rfl) rfl, mw 448 (by rfl) rfl, mw 21 (by rfl) rfl, by decide +kernel⟩
set_option maxRecDepth 20000 in
theorem ln_X2_89 : Ln RX2 89 yX2_size := mw 450 (by rfl) rfl
set_option maxRecDepth 20000 in
theorem mf_X2_size : MfS yX2_size cX2_size 2 (some .int) 2 := ⟨mw 452 (by rfl) rfl, mw 33 (by rfl) rfl, mw 451 (by rfl) rfl, by decide +kernel⟩
set_option maxRecDepth 20000 in
theorem ln_L_64 : Ln RL 64 yX2_wins := mw 453 (by rfl) rfl
set_option maxRecDepth 20000 in
theorem mf_X2_wins : MfV yX2_wins cX2_wins 8 (some .int) 2 := ⟨mw 456 (by rfl) rfl, mw 33 (by rfl) rfl, mw 454 (by rfl) rfl, mw 455 (by rfl) rfl, by decide +kernel⟩
set_option maxRecDepth 20000 in
theorem ln_L_68 : Ln RL 68 yX2_term := mw 457 (by rfl) rfl
set_option maxRecDepth 20000 in
theorem mf_X2_term : MfV yX2_term cX2_term 6 (some .int) 4 := ⟨mw 460 (by rfl) rfl, mw 33 (by rfl) rfl, mw 458 (by rfl) rfl, mw 459 (by rfl) rfl, by decide +kernel⟩
set_option maxRecDepth 20000 in
theorem ln_X2_119 : Ln RX2 119 yX2_isSum := mw 461 (by rfl) rfl
set_option maxRecDepth 20000 in
theorem mf_X2_isSum : MfS yX2_isSum cX2_isSum 1 (some .boolean) 1 := ⟨mw 463 (by rfl) rfl, mw 33 (by rfl) rfl, mw 462 (by rfl) rfl, by decide +kernel⟩
set_option maxRecDepth 20000 in
theorem kc_X2_103 : Cond.constantLong RX2 103 (7) ∈ lw_G := mw 464 (by rfl) rfl
set_option maxRecDepth 20000 in
theorem kc_X2_108 : Cond.constantLong RX2 108 (-6) ∈ lw_G := mw 465 (by rfl) rfl
set_option maxRecDepth 20000 in
theorem kc_X2_110 : Cond.constantLong RX2 110 (6) ∈ lw_G := mw 466 (by rfl) rfl
set_option maxRecDepth 20000 in
theorem ln_X2_112 : Ln RX2 112 yX2_plain := mw 467 (by rfl) rfl
set_option maxRecDepth 20000 in
theorem mf_X2_plain : MfV yX2_plain cX2_plain 4 (some .boolean) 2 := ⟨mw 470 (by rfl) rfl, mw 33 (by rfl) rfl, mw 469 (by rfl) rfl, mw 22 (by rfl) rfl, by decide +kernel⟩
set_option maxRecDepth 20000 in
theorem ln_X2_105 : Ln RX2 105 yX2_place := mw 471 (by rfl) rfl
set_option maxRecDepth 20000 in
theorem mf_X2_place : MfS yX2_place cX2_place 2 (some .int) 2 := ⟨mw 473 (by rfl) rfl, mw 33 (by rfl) rfl, mw 472 (by rfl) rfl, by decide +kernel⟩
set_option maxRecDepth 20000 in
theorem ln_X2_122 : Ln RX2 122 yX2_terms := mw 474 (by rfl) rfl
set_option maxRecDepth 20000 in
theorem mf_X2_terms : MfV yX2_terms cX2_terms 4 (some .int) 1 := ⟨mw 477 (by rfl) rfl, mw 33 (by rfl) rfl, mw 476 (by rfl) rfl, mw 23 (by rfl) rfl, by decide +kernel⟩
set_option maxRecDepth 20000 in
theorem ln_L_72 : Ln RL 72 yX2_told := mw 478 (by rfl) rfl
set_option maxRecDepth 20000 in
theorem mf_X2_told : MfV yX2_told cX2_told 7 (some .int) 3 := ⟨mw 481 (by rfl) rfl, mw 33 (by rfl) rfl, mw 479 (by rfl) rfl, mw 480 (by rfl) rfl, by decide +kernel⟩
set_option maxRecDepth 20000 in
theorem kc_X2_126 : Cond.constant RX2 126 (-1000000001) ∈ lw_G := mw 482 (by rfl) rfl
set_option maxRecDepth 20000 in
theorem kc_X2_127 : Cond.constant RX2 127 (-1000000004) ∈ lw_G := mw 483 (by rfl) rfl
set_option maxRecDepth 20000 in
theorem ln_L_76 : Ln RL 76 yX2_sum := mw 484 (by rfl) rfl
set_option maxRecDepth 20000 in
theorem mf_X2_sum : MfV yX2_sum cX2_sum 6 (some .int) 4 := ⟨mw 487 (by rfl) rfl, mw 33 (by rfl) rfl, mw 485 (by rfl) rfl, mw 486 (by rfl) rfl, by decide +kernel⟩
set_option maxRecDepth 20000 in
theorem ln_X2_136 : Ln RX2 136 yX2_products := mw 488 (by rfl) rfl
set_option maxRecDepth 20000 in
theorem mf_X2_products : MfV yX2_products cX2_products 8 (some .boolean) 2 := ⟨mw 491 (by rfl) rfl, mw 33 (by rfl) rfl, mw 490 (by rfl) rfl, mw 24 (by rfl) rfl, by decide +kernel⟩
set_option maxRecDepth 20000 in
theorem ln_X2_128 : Ln RX2 128 yX2_copies := mw 492 (by rfl) rfl
set_option maxRecDepth 20000 in
theorem mf_X2_copies : MfV yX2_copies cX2_copies 4 none 2 := ⟨mw 495 (by rfl) rfl, mw 33 (by rfl) rfl, mw 494 (by rfl) rfl, mw 25 (by rfl) rfl, by decide +kernel⟩
set_option maxRecDepth 20000 in
theorem ln_X2_132 : Ln RX2 132 yX2_multiplies := mw 496 (by rfl) rfl
set_option maxRecDepth 20000 in
theorem mf_X2_multiplies : MfV yX2_multiplies cX2_multiplies 11 (some .boolean) 7 := ⟨mw 499 (by rfl) rfl, mw 33 (by rfl) rfl, mw 498 (by rfl) rfl, mw 26 (by rfl) rfl, by decide +kernel⟩
set_option maxRecDepth 20000 in
theorem ln_X2_115 : Ln RX2 115 yX2_puts := mw 500 (by rfl) rfl
set_option maxRecDepth 20000 in
theorem mf_X2_puts : MfV yX2_puts cX2_puts 9 (some .boolean) 4 := ⟨mw 503 (by rfl) rfl, mw 33 (by rfl) rfl, mw 502 (by rfl) rfl, mw 27 (by rfl) rfl, by decide +kernel⟩
set_option maxRecDepth 20000 in
theorem kc_X2_140 : Cond.constantLong RX2 140 (-1) ∈ lw_G := mw 504 (by rfl) rfl
set_option maxRecDepth 20000 in
theorem ln_X2_142 : Ln RX2 142 yX2_adds := mw 505 (by rfl) rfl
set_option maxRecDepth 20000 in
theorem mf_X2_adds : MfV yX2_adds cX2_adds 8 (some .boolean) 3 := ⟨mw 508 (by rfl) rfl, mw 33 (by rfl) rfl, mw 507 (by rfl) rfl, mw 28 (by rfl) rfl, by decide +kernel⟩
set_option maxRecDepth 20000 in
theorem ln_L_81 : Ln RL 81 yX2_divide := mw 509 (by rfl) rfl
set_option maxRecDepth 20000 in
theorem mf_X2_divide : MfV yX2_divide cX2_divide 23 (some .int) 5 := ⟨mw 512 (by rfl) rfl, mw 33 (by rfl) rfl, mw 510 (by rfl) rfl, mw 511 (by rfl) rfl, by decide +kernel⟩
set_option maxRecDepth 20000 in
theorem ln_X2_146 : Ln RX2 146 yX2_greatest := mw 513 (by rfl) rfl
set_option maxRecDepth 20000 in
theorem mf_X2_greatest : MfV yX2_greatest cX2_greatest 3 (some .int) 1 := ⟨mw 516 (by rfl) rfl, mw 33 (by rfl) rfl, mw 515 (by rfl) rfl, mw 29 (by rfl) rfl, by decide +kernel⟩
set_option maxRecDepth 20000 in
theorem ln_L_85 : Ln RL 85 yX2_order := mw 517 (by rfl) rfl
set_option maxRecDepth 20000 in
theorem mf_X2_order : MfV yX2_order cX2_order 4 (some .int) 2 := ⟨mw 520 (by rfl) rfl, mw 33 (by rfl) rfl, mw 518 (by rfl) rfl, mw 519 (by rfl) rfl, by decide +kernel⟩
set_option maxRecDepth 20000 in
theorem ln_L_89 : Ln RL 89 yX2_take := mw 521 (by rfl) rfl
set_option maxRecDepth 20000 in
theorem mf_X2_take : MfV yX2_take cX2_take 3 (some .int) 2 := ⟨mw 524 (by rfl) rfl, mw 33 (by rfl) rfl, mw 522 (by rfl) rfl, mw 523 (by rfl) rfl, by decide +kernel⟩
set_option maxRecDepth 20000 in
theorem ln_L_93 : Ln RL 93 yX2_near := mw 525 (by rfl) rfl
set_option maxRecDepth 20000 in
theorem mf_X2_near : MfV yX2_near cX2_near 3 (some .int) 2 := ⟨mw 528 (by rfl) rfl, mw 33 (by rfl) rfl, mw 526 (by rfl) rfl, mw 527 (by rfl) rfl, by decide +kernel⟩
