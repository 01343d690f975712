section
-- ===== PART A: goes FIRST, ahead of the names: the tables' words, and 'selects' of the private methods out of them =====
/-- a private method of a class that the tables say can be made, by its rows of tables_1 -/
def lw_okq (q : MethodName × Nat) : Prop := (q.1.cls ≠ "java/lang/invoke/MethodHandle" ∧ q.1.cls ≠ "java/lang/invoke/VarHandle") ∧ Cond.instantiable q.1.cls q.2 ∈ tables_1 ∧ Cond.privateMethod q.1 ∈ tables_1 ∧ Cond.instanceMethod q.1 ∈ tables_1
theorem lw_p0 : lw_okq (⟨"BornNumbers", "hold", "(III)I"⟩, 8) := ⟨⟨by decide +kernel, by decide +kernel⟩, List.mem_of_getElem? (i := 8) (by decide +kernel), List.mem_of_getElem? (i := 62) (by decide +kernel), List.mem_of_getElem? (i := 63) (by decide +kernel)⟩
theorem lw_p1 : lw_okq (⟨"BornNumbers", "holdValue", "(IJ)I"⟩, 8) := ⟨⟨by decide +kernel, by decide +kernel⟩, List.mem_of_getElem? (i := 8) (by decide +kernel), List.mem_of_getElem? (i := 86) (by decide +kernel), List.mem_of_getElem? (i := 87) (by decide +kernel)⟩
theorem lw_p2 : lw_okq (⟨"BornNumbers", "holdSimplest", "(IJJ)I"⟩, 8) := ⟨⟨by decide +kernel, by decide +kernel⟩, List.mem_of_getElem? (i := 8) (by decide +kernel), List.mem_of_getElem? (i := 90) (by decide +kernel), List.mem_of_getElem? (i := 91) (by decide +kernel)⟩
theorem lw_p3 : lw_okq (⟨"BornNumbers", "holdProduct", "(IJ)I"⟩, 8) := ⟨⟨by decide +kernel, by decide +kernel⟩, List.mem_of_getElem? (i := 8) (by decide +kernel), List.mem_of_getElem? (i := 131) (by decide +kernel), List.mem_of_getElem? (i := 132) (by decide +kernel)⟩
theorem lw_p4 : lw_okq (⟨"BornNumbers", "findPair", "(II)Z"⟩, 8) := ⟨⟨by decide +kernel, by decide +kernel⟩, List.mem_of_getElem? (i := 8) (by decide +kernel), List.mem_of_getElem? (i := 149) (by decide +kernel), List.mem_of_getElem? (i := 150) (by decide +kernel)⟩
theorem lw_p5 : lw_okq (⟨"BornNumbers", "leastAboveAll", "(I)J"⟩, 8) := ⟨⟨by decide +kernel, by decide +kernel⟩, List.mem_of_getElem? (i := 8) (by decide +kernel), List.mem_of_getElem? (i := 153) (by decide +kernel), List.mem_of_getElem? (i := 154) (by decide +kernel)⟩
theorem lw_p6 : lw_okq (⟨"BornNumbers", "greatestBelowAll", "(I)J"⟩, 8) := ⟨⟨by decide +kernel, by decide +kernel⟩, List.mem_of_getElem? (i := 8) (by decide +kernel), List.mem_of_getElem? (i := 161) (by decide +kernel), List.mem_of_getElem? (i := 162) (by decide +kernel)⟩
theorem lw_p7 : lw_okq (⟨"BornNumbers", "countLess", "(II)I"⟩, 8) := ⟨⟨by decide +kernel, by decide +kernel⟩, List.mem_of_getElem? (i := 8) (by decide +kernel), List.mem_of_getElem? (i := 187) (by decide +kernel), List.mem_of_getElem? (i := 188) (by decide +kernel)⟩
theorem lw_p8 : lw_okq (⟨"BornNumbers$Sum", "countTerms", "()I"⟩, 1) := ⟨⟨by decide +kernel, by decide +kernel⟩, List.mem_of_getElem? (i := 17) (by decide +kernel), List.mem_of_getElem? (i := 216) (by decide +kernel), List.mem_of_getElem? (i := 217) (by decide +kernel)⟩
theorem lw_p9 : lw_okq (⟨"BornNumbers$Sum", "slotOfTerm", "(I)I"⟩, 1) := ⟨⟨by decide +kernel, by decide +kernel⟩, List.mem_of_getElem? (i := 17) (by decide +kernel), List.mem_of_getElem? (i := 225) (by decide +kernel), List.mem_of_getElem? (i := 226) (by decide +kernel)⟩
theorem lw_p10 : lw_okq (⟨"BornNumbers$Sum", "becomeProduct", "(LBornNumbers$Sum;LBornNumbers$Sum;)Z"⟩, 1) := ⟨⟨by decide +kernel, by decide +kernel⟩, List.mem_of_getElem? (i := 17) (by decide +kernel), List.mem_of_getElem? (i := 234) (by decide +kernel), List.mem_of_getElem? (i := 235) (by decide +kernel)⟩
theorem lw_p11 : lw_okq (⟨"BornNumbers$Sum", "clear", "()V"⟩, 1) := ⟨⟨by decide +kernel, by decide +kernel⟩, List.mem_of_getElem? (i := 17) (by decide +kernel), List.mem_of_getElem? (i := 238) (by decide +kernel), List.mem_of_getElem? (i := 239) (by decide +kernel)⟩
theorem lw_p12 : lw_okq (⟨"BornNumbers$Sum", "putProducts", "(IJLBornNumbers$Sum;)Z"⟩, 1) := ⟨⟨by decide +kernel, by decide +kernel⟩, List.mem_of_getElem? (i := 17) (by decide +kernel), List.mem_of_getElem? (i := 242) (by decide +kernel), List.mem_of_getElem? (i := 243) (by decide +kernel)⟩
theorem lw_p13 : lw_okq (⟨"BornNumbers$Sum", "put", "(IJ)Z"⟩, 1) := ⟨⟨by decide +kernel, by decide +kernel⟩, List.mem_of_getElem? (i := 17) (by decide +kernel), List.mem_of_getElem? (i := 249) (by decide +kernel), List.mem_of_getElem? (i := 250) (by decide +kernel)⟩
theorem lw_p14 : lw_okq (⟨"BornNumbers$Sum", "becomeTogether", "(LBornNumbers$Sum;LBornNumbers$Sum;Z)Z"⟩, 1) := ⟨⟨by decide +kernel, by decide +kernel⟩, List.mem_of_getElem? (i := 17) (by decide +kernel), List.mem_of_getElem? (i := 256) (by decide +kernel), List.mem_of_getElem? (i := 257) (by decide +kernel)⟩
theorem lw_p15 : lw_okq (⟨"BornNumbers$Sum", "become", "(LBornNumbers$Sum;)V"⟩, 1) := ⟨⟨by decide +kernel, by decide +kernel⟩, List.mem_of_getElem? (i := 17) (by decide +kernel), List.mem_of_getElem? (i := 260) (by decide +kernel), List.mem_of_getElem? (i := 261) (by decide +kernel)⟩
def lw_privs_1 : List (MethodName × Nat) := [(⟨"BornNumbers", "hold", "(III)I"⟩, 8), (⟨"BornNumbers", "holdValue", "(IJ)I"⟩, 8), (⟨"BornNumbers", "holdSimplest", "(IJJ)I"⟩, 8), (⟨"BornNumbers", "holdProduct", "(IJ)I"⟩, 8), (⟨"BornNumbers", "findPair", "(II)Z"⟩, 8), (⟨"BornNumbers", "leastAboveAll", "(I)J"⟩, 8), (⟨"BornNumbers", "greatestBelowAll", "(I)J"⟩, 8), (⟨"BornNumbers", "countLess", "(II)I"⟩, 8), (⟨"BornNumbers$Sum", "countTerms", "()I"⟩, 1), (⟨"BornNumbers$Sum", "slotOfTerm", "(I)I"⟩, 1), (⟨"BornNumbers$Sum", "becomeProduct", "(LBornNumbers$Sum;LBornNumbers$Sum;)Z"⟩, 1), (⟨"BornNumbers$Sum", "clear", "()V"⟩, 1), (⟨"BornNumbers$Sum", "putProducts", "(IJLBornNumbers$Sum;)Z"⟩, 1), (⟨"BornNumbers$Sum", "put", "(IJ)Z"⟩, 1), (⟨"BornNumbers$Sum", "becomeTogether", "(LBornNumbers$Sum;LBornNumbers$Sum;Z)Z"⟩, 1), (⟨"BornNumbers$Sum", "become", "(LBornNumbers$Sum;)V"⟩, 1)]
theorem lw_r1 : ∀ q ∈ lw_privs_1, lw_okq q := List.forall_mem_cons.mpr ⟨lw_p0, List.forall_mem_cons.mpr ⟨lw_p1, List.forall_mem_cons.mpr ⟨lw_p2, List.forall_mem_cons.mpr ⟨lw_p3, List.forall_mem_cons.mpr ⟨lw_p4, List.forall_mem_cons.mpr ⟨lw_p5, List.forall_mem_cons.mpr ⟨lw_p6, List.forall_mem_cons.mpr ⟨lw_p7, List.forall_mem_cons.mpr ⟨lw_p8, List.forall_mem_cons.mpr ⟨lw_p9, List.forall_mem_cons.mpr ⟨lw_p10, List.forall_mem_cons.mpr ⟨lw_p11, List.forall_mem_cons.mpr ⟨lw_p12, List.forall_mem_cons.mpr ⟨lw_p13, List.forall_mem_cons.mpr ⟨lw_p14, List.forall_mem_cons.mpr ⟨lw_p15, fun _ h => absurd h List.not_mem_nil⟩⟩⟩⟩⟩⟩⟩⟩⟩⟩⟩⟩⟩⟩⟩⟩
theorem lw_p16 : lw_okq (⟨"BornNumbers", "divideOnce", "(LBornNumbers$Sum;II)Z"⟩, 8) := ⟨⟨by decide +kernel, by decide +kernel⟩, List.mem_of_getElem? (i := 8) (by decide +kernel), List.mem_of_getElem? (i := 276) (by decide +kernel), List.mem_of_getElem? (i := 277) (by decide +kernel)⟩
theorem lw_p17 : lw_okq (⟨"BornNumbersModel", "has", "(JI)Z"⟩, 10) := ⟨⟨by decide +kernel, by decide +kernel⟩, List.mem_of_getElem? (i := 297) (by decide +kernel), List.mem_of_getElem? (i := 353) (by decide +kernel), List.mem_of_getElem? (i := 354) (by decide +kernel)⟩
theorem lw_p18 : lw_okq (⟨"BornNumbersModel", "keeps", "(IZ)I"⟩, 10) := ⟨⟨by decide +kernel, by decide +kernel⟩, List.mem_of_getElem? (i := 297) (by decide +kernel), List.mem_of_getElem? (i := 363) (by decide +kernel), List.mem_of_getElem? (i := 364) (by decide +kernel)⟩
theorem lw_p19 : lw_okq (⟨"BornNumbersModel", "worthOf", "(I)J"⟩, 10) := ⟨⟨by decide +kernel, by decide +kernel⟩, List.mem_of_getElem? (i := 297) (by decide +kernel), List.mem_of_getElem? (i := 376) (by decide +kernel), List.mem_of_getElem? (i := 377) (by decide +kernel)⟩
theorem lw_p20 : lw_okq (⟨"BornNumbersModel", "finds", "(ZJZJ)Z"⟩, 10) := ⟨⟨by decide +kernel, by decide +kernel⟩, List.mem_of_getElem? (i := 297) (by decide +kernel), List.mem_of_getElem? (i := 401) (by decide +kernel), List.mem_of_getElem? (i := 402) (by decide +kernel)⟩
theorem lw_p21 : lw_okq (⟨"BornNumbersModel", "lesser", "(II)I"⟩, 10) := ⟨⟨by decide +kernel, by decide +kernel⟩, List.mem_of_getElem? (i := 297) (by decide +kernel), List.mem_of_getElem? (i := 417) (by decide +kernel), List.mem_of_getElem? (i := 418) (by decide +kernel)⟩
theorem lw_p22 : lw_okq (⟨"BornNumbersModel", "plain", "(JI)Z"⟩, 10) := ⟨⟨by decide +kernel, by decide +kernel⟩, List.mem_of_getElem? (i := 297) (by decide +kernel), List.mem_of_getElem? (i := 438) (by decide +kernel), List.mem_of_getElem? (i := 439) (by decide +kernel)⟩
theorem lw_p23 : lw_okq (⟨"BornNumbersModel", "terms", "(I)I"⟩, 10) := ⟨⟨by decide +kernel, by decide +kernel⟩, List.mem_of_getElem? (i := 297) (by decide +kernel), List.mem_of_getElem? (i := 445) (by decide +kernel), List.mem_of_getElem? (i := 446) (by decide +kernel)⟩
theorem lw_p24 : lw_okq (⟨"BornNumbersModel", "products", "(II)Z"⟩, 10) := ⟨⟨by decide +kernel, by decide +kernel⟩, List.mem_of_getElem? (i := 297) (by decide +kernel), List.mem_of_getElem? (i := 459) (by decide +kernel), List.mem_of_getElem? (i := 460) (by decide +kernel)⟩
theorem lw_p25 : lw_okq (⟨"BornNumbersModel", "copies", "(II)V"⟩, 10) := ⟨⟨by decide +kernel, by decide +kernel⟩, List.mem_of_getElem? (i := 297) (by decide +kernel), List.mem_of_getElem? (i := 463) (by decide +kernel), List.mem_of_getElem? (i := 464) (by decide +kernel)⟩
theorem lw_p26 : lw_okq (⟨"BornNumbersModel", "multiplies", "(IIJIJIJ)Z"⟩, 10) := ⟨⟨by decide +kernel, by decide +kernel⟩, List.mem_of_getElem? (i := 297) (by decide +kernel), List.mem_of_getElem? (i := 467) (by decide +kernel), List.mem_of_getElem? (i := 468) (by decide +kernel)⟩
theorem lw_p27 : lw_okq (⟨"BornNumbersModel", "puts", "(IIJI)Z"⟩, 10) := ⟨⟨by decide +kernel, by decide +kernel⟩, List.mem_of_getElem? (i := 297) (by decide +kernel), List.mem_of_getElem? (i := 471) (by decide +kernel), List.mem_of_getElem? (i := 472) (by decide +kernel)⟩
theorem lw_p28 : lw_okq (⟨"BornNumbersModel", "adds", "(IIJ)Z"⟩, 10) := ⟨⟨by decide +kernel, by decide +kernel⟩, List.mem_of_getElem? (i := 297) (by decide +kernel), List.mem_of_getElem? (i := 476) (by decide +kernel), List.mem_of_getElem? (i := 477) (by decide +kernel)⟩
theorem lw_p29 : lw_okq (⟨"BornNumbersModel", "greatest", "(I)I"⟩, 10) := ⟨⟨by decide +kernel, by decide +kernel⟩, List.mem_of_getElem? (i := 297) (by decide +kernel), List.mem_of_getElem? (i := 484) (by decide +kernel), List.mem_of_getElem? (i := 485) (by decide +kernel)⟩
def lw_privs_2 : List (MethodName × Nat) := [(⟨"BornNumbers", "divideOnce", "(LBornNumbers$Sum;II)Z"⟩, 8), (⟨"BornNumbersModel", "has", "(JI)Z"⟩, 10), (⟨"BornNumbersModel", "keeps", "(IZ)I"⟩, 10), (⟨"BornNumbersModel", "worthOf", "(I)J"⟩, 10), (⟨"BornNumbersModel", "finds", "(ZJZJ)Z"⟩, 10), (⟨"BornNumbersModel", "lesser", "(II)I"⟩, 10), (⟨"BornNumbersModel", "plain", "(JI)Z"⟩, 10), (⟨"BornNumbersModel", "terms", "(I)I"⟩, 10), (⟨"BornNumbersModel", "products", "(II)Z"⟩, 10), (⟨"BornNumbersModel", "copies", "(II)V"⟩, 10), (⟨"BornNumbersModel", "multiplies", "(IIJIJIJ)Z"⟩, 10), (⟨"BornNumbersModel", "puts", "(IIJI)Z"⟩, 10), (⟨"BornNumbersModel", "adds", "(IIJ)Z"⟩, 10), (⟨"BornNumbersModel", "greatest", "(I)I"⟩, 10)]
theorem lw_r2 : ∀ q ∈ lw_privs_2, lw_okq q := List.forall_mem_cons.mpr ⟨lw_p16, List.forall_mem_cons.mpr ⟨lw_p17, List.forall_mem_cons.mpr ⟨lw_p18, List.forall_mem_cons.mpr ⟨lw_p19, List.forall_mem_cons.mpr ⟨lw_p20, List.forall_mem_cons.mpr ⟨lw_p21, List.forall_mem_cons.mpr ⟨lw_p22, List.forall_mem_cons.mpr ⟨lw_p23, List.forall_mem_cons.mpr ⟨lw_p24, List.forall_mem_cons.mpr ⟨lw_p25, List.forall_mem_cons.mpr ⟨lw_p26, List.forall_mem_cons.mpr ⟨lw_p27, List.forall_mem_cons.mpr ⟨lw_p28, List.forall_mem_cons.mpr ⟨lw_p29, fun _ h => absurd h List.not_mem_nil⟩⟩⟩⟩⟩⟩⟩⟩⟩⟩⟩⟩⟩⟩
def lw_privs : List (MethodName × Nat) := lw_privs_1 ++ (lw_privs_2)
def lw_tbl : List Cond := k2_sels lw_privs ++ tables_1
theorem lw_privs_ok : ∀ q ∈ lw_privs, lw_okq q := by
  show ∀ q ∈ lw_privs_1 ++ (lw_privs_2), lw_okq q
  exact List.forall_mem_append.mpr ⟨lw_r1, lw_r2⟩
end
section
def RX0 : String := "BornNumbers$Sum"
def TX0 : u_T := fun k => match k with
  | _ => ("BornNumbers$Sum", "factors", "[J", true)
def tyX0 : Nat → FieldType := fun k => match k with
  | _ => .array .long
abbrev wsX00 : List Cond := u_ws RX0 TX0 1
theorem nmX0 : ∀ a, a < 1 → ∀ b, b < 1 → a ≠ b → (TX0 a).2.1 ≠ (TX0 b).2.1 := by decide +kernel
theorem tyX0_ok : ∀ k, k < 1 → parseFieldDescriptor (TX0 k).2.2.1 = some (tyX0 k) := by decide +kernel
abbrev cX0_init : ByteArray := prog_2_method_1_code
def yX0_init : MethodName := ⟨RX0, "<init>", "()V"⟩
abbrev cX0_countTerms : ByteArray := prog_2_method_2_code
def yX0_countTerms : MethodName := ⟨RX0, "countTerms", "()I"⟩
abbrev cX0_slotOfTerm : ByteArray := prog_2_method_3_code
def yX0_slotOfTerm : MethodName := ⟨RX0, "slotOfTerm", "(I)I"⟩
abbrev cX0_clear : ByteArray := prog_2_method_4_code
def yX0_clear : MethodName := ⟨RX0, "clear", "()V"⟩
abbrev cX0_become : ByteArray := prog_2_method_5_code
def yX0_become : MethodName := ⟨RX0, "become", "(LBornNumbers$Sum;)V"⟩
abbrev cX0_put : ByteArray := prog_2_method_6_code
def yX0_put : MethodName := ⟨RX0, "put", "(IJ)Z"⟩
abbrev cX0_putProducts : ByteArray := prog_2_method_7_code
def yX0_putProducts : MethodName := ⟨RX0, "putProducts", "(IJLBornNumbers$Sum;)Z"⟩
abbrev cX0_becomeTogether : ByteArray := prog_2_method_8_code
def yX0_becomeTogether : MethodName := ⟨RX0, "becomeTogether", "(LBornNumbers$Sum;LBornNumbers$Sum;Z)Z"⟩
abbrev cX0_becomeProduct : ByteArray := prog_2_method_9_code
def yX0_becomeProduct : MethodName := ⟨RX0, "becomeProduct", "(LBornNumbers$Sum;LBornNumbers$Sum;)Z"⟩
def RX1 : String := "BornNumbers"
def TX1 : u_T := fun k => match k with
  | 0 => ("BornNumbers", "days", "[I", true)
  | 1 => ("BornNumbers", "rowSigns", "[I", true)
  | 2 => ("BornNumbers", "values", "[J", true)
  | 3 => ("BornNumbers", "pairLeft", "I", false)
  | 4 => ("BornNumbers", "pairRight", "I", false)
  | 5 => ("BornNumbers", "sums", "[LBornNumbers$Sum;", true)
  | 6 => ("BornNumbers", "result", "LBornNumbers$Sum;", true)
  | _ => ("BornNumbers", "rest", "LBornNumbers$Sum;", true)
def tyX1 : Nat → FieldType := fun k => match k with
  | 0 => .array .int
  | 1 => .array .int
  | 2 => .array .long
  | 3 => .int
  | 4 => .int
  | 5 => .array (.object "BornNumbers$Sum")
  | 6 => .object "BornNumbers$Sum"
  | _ => .object "BornNumbers$Sum"
abbrev wsX10 : List Cond := u_ws RX1 TX1 8
theorem nmX1 : ∀ a, a < 8 → ∀ b, b < 8 → a ≠ b → (TX1 a).2.1 ≠ (TX1 b).2.1 := by decide +kernel
theorem tyX1_ok : ∀ k, k < 8 → parseFieldDescriptor (TX1 k).2.2.1 = some (tyX1 k) := by decide +kernel
abbrev cX1_init : ByteArray := prog_1_method_1_code
def yX1_init : MethodName := ⟨RX1, "<init>", "()V"⟩
abbrev cX1_row : ByteArray := prog_1_method_2_code
def yX1_row : MethodName := ⟨RX1, "row", "(III)I"⟩
abbrev cX1_number : ByteArray := prog_1_method_3_code
def yX1_number : MethodName := ⟨RX1, "number", "(III)I"⟩
abbrev cX1_at : ByteArray := prog_1_method_4_code
def yX1_at : MethodName := ⟨RX1, "at", "(II)I"⟩
abbrev cX1_value : ByteArray := prog_1_method_5_code
def yX1_value : MethodName := ⟨RX1, "value", "(II)I"⟩
abbrev cX1_against : ByteArray := prog_1_method_6_code
def yX1_against : MethodName := ⟨RX1, "against", "(II)I"⟩
abbrev cX1_work : ByteArray := prog_1_method_7_code
def yX1_work : MethodName := ⟨RX1, "work", "(IIII)I"⟩
abbrev cX1_side : ByteArray := prog_1_method_8_code
def yX1_side : MethodName := ⟨RX1, "side", "(III)I"⟩
abbrev cX1_cut : ByteArray := prog_1_method_9_code
def yX1_cut : MethodName := ⟨RX1, "cut", "(III)I"⟩
abbrev cX1_pair : ByteArray := prog_1_method_10_code
def yX1_pair : MethodName := ⟨RX1, "pair", "(I)I"⟩
abbrev cX1_born : ByteArray := prog_1_method_11_code
def yX1_born : MethodName := ⟨RX1, "born", "(III)I"⟩
abbrev cX1_between : ByteArray := prog_1_method_12_code
def yX1_between : MethodName := ⟨RX1, "between", "(III)I"⟩
abbrev cX1_wins : ByteArray := prog_1_method_13_code
def yX1_wins : MethodName := ⟨RX1, "wins", "(II)I"⟩
abbrev cX1_term : ByteArray := prog_1_method_14_code
def yX1_term : MethodName := ⟨RX1, "term", "(IIII)I"⟩
abbrev cX1_told : ByteArray := prog_1_method_15_code
def yX1_told : MethodName := ⟨RX1, "told", "(III)I"⟩
abbrev cX1_sum : ByteArray := prog_1_method_16_code
def yX1_sum : MethodName := ⟨RX1, "sum", "(IIII)I"⟩
abbrev cX1_divide : ByteArray := prog_1_method_17_code
def yX1_divide : MethodName := ⟨RX1, "divide", "(IIIII)I"⟩
abbrev cX1_order : ByteArray := prog_1_method_18_code
def yX1_order : MethodName := ⟨RX1, "order", "(II)I"⟩
abbrev cX1_take : ByteArray := prog_1_method_19_code
def yX1_take : MethodName := ⟨RX1, "take", "(II)I"⟩
abbrev cX1_near : ByteArray := prog_1_method_20_code
def yX1_near : MethodName := ⟨RX1, "near", "(II)I"⟩
abbrev cX1_isRegister : ByteArray := prog_1_method_21_code
def yX1_isRegister : MethodName := ⟨RX1, "isRegister", "(I)Z"⟩
abbrev cX1_areRegisters : ByteArray := prog_1_method_22_code
def yX1_areRegisters : MethodName := ⟨RX1, "areRegisters", "(I)Z"⟩
abbrev cX1_isListedDay : ByteArray := prog_1_method_23_code
def yX1_isListedDay : MethodName := ⟨RX1, "isListedDay", "(I)Z"⟩
abbrev cX1_isSum : ByteArray := prog_1_method_24_code
def yX1_isSum : MethodName := ⟨RX1, "isSum", "(I)Z"⟩
abbrev cX1_isExponent : ByteArray := prog_1_method_25_code
def yX1_isExponent : MethodName := ⟨RX1, "isExponent", "(I)Z"⟩
abbrev cX1_isFraction : ByteArray := prog_1_method_26_code
def yX1_isFraction : MethodName := ⟨RX1, "isFraction", "(II)Z"⟩
abbrev cX1_has : ByteArray := prog_1_method_27_code
def yX1_has : MethodName := ⟨RX1, "has", "(II)Z"⟩
abbrev cX1_isPlus : ByteArray := prog_1_method_28_code
def yX1_isPlus : MethodName := ⟨RX1, "isPlus", "(II)Z"⟩
abbrev cX1_lowBits : ByteArray := prog_1_method_29_code
def yX1_lowBits : MethodName := ⟨RX1, "lowBits", "(I)I"⟩
abbrev cX1_turnedRound : ByteArray := prog_1_method_30_code
def yX1_turnedRound : MethodName := ⟨RX1, "turnedRound", "(II)I"⟩
abbrev cX1_signOf : ByteArray := prog_1_method_31_code
def yX1_signOf : MethodName := ⟨RX1, "signOf", "(J)I"⟩
abbrev cX1_isPowerOfTwo : ByteArray := prog_1_method_32_code
def yX1_isPowerOfTwo : MethodName := ⟨RX1, "isPowerOfTwo", "(J)Z"⟩
abbrev cX1_halvings : ByteArray := prog_1_method_33_code
def yX1_halvings : MethodName := ⟨RX1, "halvings", "(J)I"⟩
abbrev cX1_leastBelow : ByteArray := prog_1_method_34_code
def yX1_leastBelow : MethodName := ⟨RX1, "leastBelow", "(JI)I"⟩
abbrev cX1_leastAbove : ByteArray := prog_1_method_35_code
def yX1_leastAbove : MethodName := ⟨RX1, "leastAbove", "(JI)I"⟩
abbrev cX1_factorOf : ByteArray := prog_1_method_36_code
def yX1_factorOf : MethodName := ⟨RX1, "factorOf", "(JI)J"⟩
abbrev cX1_factorProduct : ByteArray := prog_1_method_37_code
def yX1_factorProduct : MethodName := ⟨RX1, "factorProduct", "(JJ)J"⟩
abbrev cX1_factorQuotient : ByteArray := prog_1_method_38_code
def yX1_factorQuotient : MethodName := ⟨RX1, "factorQuotient", "(JJ)J"⟩
abbrev cX1_hold : ByteArray := prog_1_method_39_code
def yX1_hold : MethodName := ⟨RX1, "hold", "(III)I"⟩
abbrev cX1_worth : ByteArray := prog_1_method_40_code
def yX1_worth : MethodName := ⟨RX1, "worth", "(II)J"⟩
abbrev cX1_holdValue : ByteArray := prog_1_method_41_code
def yX1_holdValue : MethodName := ⟨RX1, "holdValue", "(IJ)I"⟩
abbrev cX1_holdProduct : ByteArray := prog_1_method_42_code
def yX1_holdProduct : MethodName := ⟨RX1, "holdProduct", "(IJ)I"⟩
abbrev cX1_holdSimplest : ByteArray := prog_1_method_43_code
def yX1_holdSimplest : MethodName := ⟨RX1, "holdSimplest", "(IJJ)I"⟩
abbrev cX1_findPair : ByteArray := prog_1_method_44_code
def yX1_findPair : MethodName := ⟨RX1, "findPair", "(II)Z"⟩
abbrev cX1_leastAboveAll : ByteArray := prog_1_method_45_code
def yX1_leastAboveAll : MethodName := ⟨RX1, "leastAboveAll", "(I)J"⟩
abbrev cX1_greatestBelowAll : ByteArray := prog_1_method_46_code
def yX1_greatestBelowAll : MethodName := ⟨RX1, "greatestBelowAll", "(I)J"⟩
abbrev cX1_countLess : ByteArray := prog_1_method_47_code
def yX1_countLess : MethodName := ⟨RX1, "countLess", "(II)I"⟩
abbrev cX1_divideOnce : ByteArray := prog_1_method_48_code
def yX1_divideOnce : MethodName := ⟨RX1, "divideOnce", "(LBornNumbers$Sum;II)Z"⟩
def RX2 : String := "BornNumbersModel"
def TX2 : u_T := fun k => match k with
  | 0 => ("BornNumbersModel", "day", "[I", true)
  | 1 => ("BornNumbersModel", "signs", "[I", true)
  | 2 => ("BornNumbersModel", "pairLeft", "I", false)
  | 3 => ("BornNumbersModel", "pairRight", "I", false)
  | 4 => ("BornNumbersModel", "above", "[J", true)
  | 5 => ("BornNumbersModel", "below", "[I", true)
  | 6 => ("BornNumbersModel", "foundDay", "I", false)
  | 7 => ("BornNumbersModel", "foundSigns", "I", false)
  | 8 => ("BornNumbersModel", "plainUp", "J", false)
  | _ => ("BornNumbersModel", "plainDown", "I", false)
def tyX2 : Nat → FieldType := fun k => match k with
  | 0 => .array .int
  | 1 => .array .int
  | 2 => .int
  | 3 => .int
  | 4 => .array .long
  | 5 => .array .int
  | 6 => .int
  | 7 => .int
  | 8 => .long
  | _ => .int
abbrev wsX20 : List Cond := u_ws RX2 TX2 10
theorem nmX2 : ∀ a, a < 10 → ∀ b, b < 10 → a ≠ b → (TX2 a).2.1 ≠ (TX2 b).2.1 := by decide +kernel
theorem tyX2_ok : ∀ k, k < 10 → parseFieldDescriptor (TX2 k).2.2.1 = some (tyX2 k) := by decide +kernel
abbrev cX2_init : ByteArray := prog_4_method_1_code
def yX2_init : MethodName := ⟨RX2, "<init>", "()V"⟩
abbrev cX2_in : ByteArray := prog_4_method_2_code
def yX2_in : MethodName := ⟨RX2, "in", "(JJJ)Z"⟩
abbrev cX2_isRegister : ByteArray := prog_4_method_3_code
def yX2_isRegister : MethodName := ⟨RX2, "isRegister", "(I)Z"⟩
abbrev cX2_worth : ByteArray := prog_4_method_4_code
def yX2_worth : MethodName := ⟨RX2, "worth", "(II)J"⟩
abbrev cX2_worthOf : ByteArray := prog_4_method_5_code
def yX2_worthOf : MethodName := ⟨RX2, "worthOf", "(I)J"⟩
abbrev cX2_finds : ByteArray := prog_4_method_6_code
def yX2_finds : MethodName := ⟨RX2, "finds", "(ZJZJ)Z"⟩
abbrev cX2_has : ByteArray := prog_4_method_7_code
def yX2_has : MethodName := ⟨RX2, "has", "(JI)Z"⟩
abbrev cX2_keeps : ByteArray := prog_4_method_8_code
def yX2_keeps : MethodName := ⟨RX2, "keeps", "(IZ)I"⟩
abbrev cX2_row : ByteArray := prog_4_method_9_code
def yX2_row : MethodName := ⟨RX2, "row", "(III)I"⟩
abbrev cX2_number : ByteArray := prog_4_method_10_code
def yX2_number : MethodName := ⟨RX2, "number", "(III)I"⟩
abbrev cX2_at : ByteArray := prog_4_method_11_code
def yX2_at : MethodName := ⟨RX2, "at", "(II)I"⟩
abbrev cX2_value : ByteArray := prog_4_method_12_code
def yX2_value : MethodName := ⟨RX2, "value", "(II)I"⟩
abbrev cX2_compare : ByteArray := prog_4_method_13_code
def yX2_compare : MethodName := ⟨RX2, "compare", "(JJ)I"⟩
abbrev cX2_against : ByteArray := prog_4_method_14_code
def yX2_against : MethodName := ⟨RX2, "against", "(II)I"⟩
abbrev cX2_work : ByteArray := prog_4_method_15_code
def yX2_work : MethodName := ⟨RX2, "work", "(IIII)I"⟩
abbrev cX2_side : ByteArray := prog_4_method_16_code
def yX2_side : MethodName := ⟨RX2, "side", "(III)I"⟩
abbrev cX2_cut : ByteArray := prog_4_method_17_code
def yX2_cut : MethodName := ⟨RX2, "cut", "(III)I"⟩
abbrev cX2_pair : ByteArray := prog_4_method_18_code
def yX2_pair : MethodName := ⟨RX2, "pair", "(I)I"⟩
abbrev cX2_born : ByteArray := prog_4_method_19_code
def yX2_born : MethodName := ⟨RX2, "born", "(III)I"⟩
abbrev cX2_size : ByteArray := prog_4_method_20_code
def yX2_size : MethodName := ⟨RX2, "size", "(II)I"⟩
abbrev cX2_lesser : ByteArray := prog_4_method_21_code
def yX2_lesser : MethodName := ⟨RX2, "lesser", "(II)I"⟩
abbrev cX2_between : ByteArray := prog_4_method_22_code
def yX2_between : MethodName := ⟨RX2, "between", "(III)I"⟩
abbrev cX2_wins : ByteArray := prog_4_method_23_code
def yX2_wins : MethodName := ⟨RX2, "wins", "(II)I"⟩
abbrev cX2_plain : ByteArray := prog_4_method_24_code
def yX2_plain : MethodName := ⟨RX2, "plain", "(JI)Z"⟩
abbrev cX2_isSum : ByteArray := prog_4_method_25_code
def yX2_isSum : MethodName := ⟨RX2, "isSum", "(I)Z"⟩
abbrev cX2_place : ByteArray := prog_4_method_26_code
def yX2_place : MethodName := ⟨RX2, "place", "(II)I"⟩
abbrev cX2_terms : ByteArray := prog_4_method_27_code
def yX2_terms : MethodName := ⟨RX2, "terms", "(I)I"⟩
abbrev cX2_copies : ByteArray := prog_4_method_28_code
def yX2_copies : MethodName := ⟨RX2, "copies", "(II)V"⟩
abbrev cX2_puts : ByteArray := prog_4_method_29_code
def yX2_puts : MethodName := ⟨RX2, "puts", "(IIJI)Z"⟩
abbrev cX2_multiplies : ByteArray := prog_4_method_30_code
def yX2_multiplies : MethodName := ⟨RX2, "multiplies", "(IIJIJIJ)Z"⟩
abbrev cX2_term : ByteArray := prog_4_method_31_code
def yX2_term : MethodName := ⟨RX2, "term", "(IIII)I"⟩
abbrev cX2_told : ByteArray := prog_4_method_32_code
def yX2_told : MethodName := ⟨RX2, "told", "(III)I"⟩
abbrev cX2_adds : ByteArray := prog_4_method_33_code
def yX2_adds : MethodName := ⟨RX2, "adds", "(IIJ)Z"⟩
abbrev cX2_products : ByteArray := prog_4_method_34_code
def yX2_products : MethodName := ⟨RX2, "products", "(II)Z"⟩
abbrev cX2_sum : ByteArray := prog_4_method_35_code
def yX2_sum : MethodName := ⟨RX2, "sum", "(IIII)I"⟩
abbrev cX2_greatest : ByteArray := prog_4_method_36_code
def yX2_greatest : MethodName := ⟨RX2, "greatest", "(I)I"⟩
abbrev cX2_divide : ByteArray := prog_4_method_37_code
def yX2_divide : MethodName := ⟨RX2, "divide", "(IIIII)I"⟩
abbrev cX2_order : ByteArray := prog_4_method_38_code
def yX2_order : MethodName := ⟨RX2, "order", "(II)I"⟩
abbrev cX2_take : ByteArray := prog_4_method_39_code
def yX2_take : MethodName := ⟨RX2, "take", "(II)I"⟩
abbrev cX2_near : ByteArray := prog_4_method_40_code
def yX2_near : MethodName := ⟨RX2, "near", "(II)I"⟩
def RJ6 : String := "java/lang/Integer"
def TJ6 : u_T := fun k => match k with
  | _ => ("", "", "", false)
def tyJ6 : Nat → FieldType := fun k => match k with
  | _ => .int
abbrev wsJ60 : List Cond := u_ws RJ6 TJ6 0
theorem nmJ6 : ∀ a, a < 0 → ∀ b, b < 0 → a ≠ b → (TJ6 a).2.1 ≠ (TJ6 b).2.1 := by decide +kernel
theorem tyJ6_ok : ∀ k, k < 0 → parseFieldDescriptor (TJ6 k).2.2.1 = some (tyJ6 k) := by decide +kernel
abbrev cJ6_bitCount_0f7a4 : ByteArray := prog_5_method_49_code
def yJ6_bitCount_0f7a4 : MethodName := ⟨RJ6, "bitCount", "(I)I"⟩
def RJ13 : String := "java/lang/Long"
def TJ13 : u_T := fun k => match k with
  | _ => ("", "", "", false)
def tyJ13 : Nat → FieldType := fun k => match k with
  | _ => .int
abbrev wsJ130 : List Cond := u_ws RJ13 TJ13 0
theorem nmJ13 : ∀ a, a < 0 → ∀ b, b < 0 → a ≠ b → (TJ13 a).2.1 ≠ (TJ13 b).2.1 := by decide +kernel
theorem tyJ13_ok : ∀ k, k < 0 → parseFieldDescriptor (TJ13 k).2.2.1 = some (tyJ13 k) := by decide +kernel
abbrev cJ13_bitCount_95d88 : ByteArray := prog_6_method_50_code
def yJ13_bitCount_95d88 : MethodName := ⟨RJ13, "bitCount", "(J)I"⟩
def RJ9 : String := "java/lang/Math"
def TJ9 : u_T := fun k => match k with
  | _ => ("", "", "", false)
def tyJ9 : Nat → FieldType := fun k => match k with
  | _ => .int
abbrev wsJ90 : List Cond := u_ws RJ9 TJ9 0
theorem nmJ9 : ∀ a, a < 0 → ∀ b, b < 0 → a ≠ b → (TJ9 a).2.1 ≠ (TJ9 b).2.1 := by decide +kernel
theorem tyJ9_ok : ∀ k, k < 0 → parseFieldDescriptor (TJ9 k).2.2.1 = some (tyJ9 k) := by decide +kernel
abbrev cJ9_abs_067f4 : ByteArray := prog_7_method_61_code
def yJ9_abs_067f4 : MethodName := ⟨RJ9, "abs", "(J)J"⟩
abbrev cJ9_max_7cf53 : ByteArray := prog_7_method_65_code
def yJ9_max_7cf53 : MethodName := ⟨RJ9, "max", "(II)I"⟩
abbrev cJ9_max_f86c9 : ByteArray := prog_7_method_66_code
def yJ9_max_f86c9 : MethodName := ⟨RJ9, "max", "(JJ)J"⟩
abbrev cJ9_min_f86c9 : ByteArray := prog_7_method_70_code
def yJ9_min_f86c9 : MethodName := ⟨RJ9, "min", "(JJ)J"⟩
def RL : String := "BornNumbersLaw"
abbrev cL_law : ByteArray := code
def yL_law : MethodName := ⟨RL, "law", "([I)Z"⟩
abbrev vwCl : List vw_C := [(RX0, TX0, 1), (RX1, TX1, 8), (RX2, TX2, 10)]
end
section
theorem dX0_init_0 : decode cX0_init 0 = .ok (.aload_n 0, 1) := by decide +kernel
theorem dX0_init_1 : decode cX0_init 1 = .ok (.invokespecial 3, 3) := by decide +kernel
theorem dX0_init_4 : decode cX0_init 4 = .ok (.aload_n 0, 1) := by decide +kernel
theorem dX0_init_5 : decode cX0_init 5 = .ok (.bipush 13, 2) := by decide +kernel
theorem dX0_init_7 : decode cX0_init 7 = .ok (.newarray .long, 2) := by decide +kernel
theorem dX0_init_9 : decode cX0_init 9 = .ok (.putfield 9, 3) := by decide +kernel
theorem dX0_init_12 : decode cX0_init 12 = .ok (.return_, 1) := by decide +kernel
theorem dX0_countTerms_0 : decode cX0_countTerms 0 = .ok (.iconst 0, 1) := by decide +kernel
theorem dX0_countTerms_1 : decode cX0_countTerms 1 = .ok (.istore_n 1, 1) := by decide +kernel
theorem dX0_countTerms_2 : decode cX0_countTerms 2 = .ok (.iconst 0, 1) := by decide +kernel
theorem dX0_countTerms_3 : decode cX0_countTerms 3 = .ok (.istore_n 2, 1) := by decide +kernel
theorem dX0_countTerms_4 : decode cX0_countTerms 4 = .ok (.iload_n 2, 1) := by decide +kernel
theorem dX0_countTerms_5 : decode cX0_countTerms 5 = .ok (.bipush 13, 2) := by decide +kernel
theorem dX0_countTerms_7 : decode cX0_countTerms 7 = .ok (.if_icmp .ge 23, 3) := by decide +kernel
theorem dX0_countTerms_10 : decode cX0_countTerms 10 = .ok (.aload_n 0, 1) := by decide +kernel
theorem dX0_countTerms_11 : decode cX0_countTerms 11 = .ok (.getfield 9, 3) := by decide +kernel
theorem dX0_countTerms_14 : decode cX0_countTerms 14 = .ok (.iload_n 2, 1) := by decide +kernel
theorem dX0_countTerms_15 : decode cX0_countTerms 15 = .ok (.laload, 1) := by decide +kernel
theorem dX0_countTerms_16 : decode cX0_countTerms 16 = .ok (.lconst 0, 1) := by decide +kernel
theorem dX0_countTerms_17 : decode cX0_countTerms 17 = .ok (.lcmp, 1) := by decide +kernel
theorem dX0_countTerms_18 : decode cX0_countTerms 18 = .ok (.ifCond .eq 6, 3) := by decide +kernel
theorem dX0_countTerms_21 : decode cX0_countTerms 21 = .ok (.iinc 1 1, 3) := by decide +kernel
theorem dX0_countTerms_24 : decode cX0_countTerms 24 = .ok (.iinc 2 1, 3) := by decide +kernel
theorem dX0_countTerms_27 : decode cX0_countTerms 27 = .ok (.goto (-23), 3) := by decide +kernel
theorem dX0_countTerms_30 : decode cX0_countTerms 30 = .ok (.iload_n 1, 1) := by decide +kernel
theorem dX0_countTerms_31 : decode cX0_countTerms 31 = .ok (.ireturn, 1) := by decide +kernel
theorem dX0_slotOfTerm_0 : decode cX0_slotOfTerm 0 = .ok (.iload_n 1, 1) := by decide +kernel
theorem dX0_slotOfTerm_1 : decode cX0_slotOfTerm 1 = .ok (.istore_n 2, 1) := by decide +kernel
theorem dX0_slotOfTerm_2 : decode cX0_slotOfTerm 2 = .ok (.bipush 12, 2) := by decide +kernel
theorem dX0_slotOfTerm_4 : decode cX0_slotOfTerm 4 = .ok (.istore_n 3, 1) := by decide +kernel
theorem dX0_slotOfTerm_5 : decode cX0_slotOfTerm 5 = .ok (.iload_n 3, 1) := by decide +kernel
theorem dX0_slotOfTerm_6 : decode cX0_slotOfTerm 6 = .ok (.ifCond .lt 29, 3) := by decide +kernel
theorem dX0_slotOfTerm_9 : decode cX0_slotOfTerm 9 = .ok (.aload_n 0, 1) := by decide +kernel
theorem dX0_slotOfTerm_10 : decode cX0_slotOfTerm 10 = .ok (.getfield 9, 3) := by decide +kernel
theorem dX0_slotOfTerm_13 : decode cX0_slotOfTerm 13 = .ok (.iload_n 3, 1) := by decide +kernel
theorem dX0_slotOfTerm_14 : decode cX0_slotOfTerm 14 = .ok (.laload, 1) := by decide +kernel
theorem dX0_slotOfTerm_15 : decode cX0_slotOfTerm 15 = .ok (.lconst 0, 1) := by decide +kernel
theorem dX0_slotOfTerm_16 : decode cX0_slotOfTerm 16 = .ok (.lcmp, 1) := by decide +kernel
theorem dX0_slotOfTerm_17 : decode cX0_slotOfTerm 17 = .ok (.ifCond .eq 12, 3) := by decide +kernel
theorem dX0_slotOfTerm_20 : decode cX0_slotOfTerm 20 = .ok (.iload_n 2, 1) := by decide +kernel
theorem dX0_slotOfTerm_21 : decode cX0_slotOfTerm 21 = .ok (.ifCond .ne 5, 3) := by decide +kernel
theorem dX0_slotOfTerm_24 : decode cX0_slotOfTerm 24 = .ok (.iload_n 3, 1) := by decide +kernel
theorem dX0_slotOfTerm_25 : decode cX0_slotOfTerm 25 = .ok (.ireturn, 1) := by decide +kernel
theorem dX0_slotOfTerm_26 : decode cX0_slotOfTerm 26 = .ok (.iinc 2 (-1), 3) := by decide +kernel
theorem dX0_slotOfTerm_29 : decode cX0_slotOfTerm 29 = .ok (.iinc 3 (-1), 3) := by decide +kernel
theorem dX0_slotOfTerm_32 : decode cX0_slotOfTerm 32 = .ok (.goto (-27), 3) := by decide +kernel
theorem dX0_slotOfTerm_35 : decode cX0_slotOfTerm 35 = .ok (.iconst (-1), 1) := by decide +kernel
theorem dX0_slotOfTerm_36 : decode cX0_slotOfTerm 36 = .ok (.ireturn, 1) := by decide +kernel
theorem dX0_clear_0 : decode cX0_clear 0 = .ok (.iconst 0, 1) := by decide +kernel
theorem dX0_clear_1 : decode cX0_clear 1 = .ok (.istore_n 1, 1) := by decide +kernel
theorem dX0_clear_2 : decode cX0_clear 2 = .ok (.iload_n 1, 1) := by decide +kernel
theorem dX0_clear_3 : decode cX0_clear 3 = .ok (.bipush 13, 2) := by decide +kernel
theorem dX0_clear_5 : decode cX0_clear 5 = .ok (.if_icmp .ge 16, 3) := by decide +kernel
theorem dX0_clear_8 : decode cX0_clear 8 = .ok (.aload_n 0, 1) := by decide +kernel
theorem dX0_clear_9 : decode cX0_clear 9 = .ok (.getfield 9, 3) := by decide +kernel
theorem dX0_clear_12 : decode cX0_clear 12 = .ok (.iload_n 1, 1) := by decide +kernel
theorem dX0_clear_13 : decode cX0_clear 13 = .ok (.lconst 0, 1) := by decide +kernel
theorem dX0_clear_14 : decode cX0_clear 14 = .ok (.lastore, 1) := by decide +kernel
theorem dX0_clear_15 : decode cX0_clear 15 = .ok (.iinc 1 1, 3) := by decide +kernel
theorem dX0_clear_18 : decode cX0_clear 18 = .ok (.goto (-16), 3) := by decide +kernel
theorem dX0_clear_21 : decode cX0_clear 21 = .ok (.return_, 1) := by decide +kernel
theorem dX0_become_0 : decode cX0_become 0 = .ok (.iconst 0, 1) := by decide +kernel
theorem dX0_become_1 : decode cX0_become 1 = .ok (.istore_n 2, 1) := by decide +kernel
theorem dX0_become_2 : decode cX0_become 2 = .ok (.iload_n 2, 1) := by decide +kernel
theorem dX0_become_3 : decode cX0_become 3 = .ok (.bipush 13, 2) := by decide +kernel
theorem dX0_become_5 : decode cX0_become 5 = .ok (.if_icmp .ge 21, 3) := by decide +kernel
theorem dX0_become_8 : decode cX0_become 8 = .ok (.aload_n 0, 1) := by decide +kernel
theorem dX0_become_9 : decode cX0_become 9 = .ok (.getfield 9, 3) := by decide +kernel
theorem dX0_become_12 : decode cX0_become 12 = .ok (.iload_n 2, 1) := by decide +kernel
theorem dX0_become_13 : decode cX0_become 13 = .ok (.aload_n 1, 1) := by decide +kernel
theorem dX0_become_14 : decode cX0_become 14 = .ok (.getfield 9, 3) := by decide +kernel
theorem dX0_become_17 : decode cX0_become 17 = .ok (.iload_n 2, 1) := by decide +kernel
theorem dX0_become_18 : decode cX0_become 18 = .ok (.laload, 1) := by decide +kernel
theorem dX0_become_19 : decode cX0_become 19 = .ok (.lastore, 1) := by decide +kernel
theorem dX0_become_20 : decode cX0_become 20 = .ok (.iinc 2 1, 3) := by decide +kernel
theorem dX0_become_23 : decode cX0_become 23 = .ok (.goto (-21), 3) := by decide +kernel
theorem dX0_become_26 : decode cX0_become 26 = .ok (.return_, 1) := by decide +kernel
theorem dX0_put_0 : decode cX0_put 0 = .ok (.iload_n 1, 1) := by decide +kernel
theorem dX0_put_1 : decode cX0_put 1 = .ok (.invokestatic 15, 3) := by decide +kernel
theorem dX0_put_4 : decode cX0_put 4 = .ok (.ifCond .eq 11, 3) := by decide +kernel
theorem dX0_put_7 : decode cX0_put 7 = .ok (.lload_n 2, 1) := by decide +kernel
theorem dX0_put_8 : decode cX0_put 8 = .ok (.ldc2_w 19, 3) := by decide +kernel
theorem dX0_put_11 : decode cX0_put 11 = .ok (.lcmp, 1) := by decide +kernel
theorem dX0_put_12 : decode cX0_put 12 = .ok (.ifCond .ne 5, 3) := by decide +kernel
theorem dX0_put_15 : decode cX0_put 15 = .ok (.iconst 0, 1) := by decide +kernel
theorem dX0_put_16 : decode cX0_put 16 = .ok (.ireturn, 1) := by decide +kernel
theorem dX0_put_17 : decode cX0_put 17 = .ok (.iload_n 1, 1) := by decide +kernel
theorem dX0_put_18 : decode cX0_put 18 = .ok (.bipush 6, 2) := by decide +kernel
theorem dX0_put_20 : decode cX0_put 20 = .ok (.iadd, 1) := by decide +kernel
theorem dX0_put_21 : decode cX0_put 21 = .ok (.istore 4, 2) := by decide +kernel
theorem dX0_put_23 : decode cX0_put 23 = .ok (.aload_n 0, 1) := by decide +kernel
theorem dX0_put_24 : decode cX0_put 24 = .ok (.getfield 9, 3) := by decide +kernel
theorem dX0_put_27 : decode cX0_put 27 = .ok (.iload 4, 2) := by decide +kernel
theorem dX0_put_29 : decode cX0_put 29 = .ok (.laload, 1) := by decide +kernel
theorem dX0_put_30 : decode cX0_put 30 = .ok (.lload_n 2, 1) := by decide +kernel
theorem dX0_put_31 : decode cX0_put 31 = .ok (.ladd, 1) := by decide +kernel
theorem dX0_put_32 : decode cX0_put 32 = .ok (.bipush 20, 2) := by decide +kernel
theorem dX0_put_34 : decode cX0_put 34 = .ok (.invokestatic 21, 3) := by decide +kernel
theorem dX0_put_37 : decode cX0_put 37 = .ok (.lstore 5, 2) := by decide +kernel
theorem dX0_put_39 : decode cX0_put 39 = .ok (.lload 5, 2) := by decide +kernel
theorem dX0_put_41 : decode cX0_put 41 = .ok (.ldc2_w 19, 3) := by decide +kernel
theorem dX0_put_44 : decode cX0_put 44 = .ok (.lcmp, 1) := by decide +kernel
theorem dX0_put_45 : decode cX0_put 45 = .ok (.ifCond .ne 5, 3) := by decide +kernel
theorem dX0_put_48 : decode cX0_put 48 = .ok (.iconst 0, 1) := by decide +kernel
theorem dX0_put_49 : decode cX0_put 49 = .ok (.ireturn, 1) := by decide +kernel
theorem dX0_put_50 : decode cX0_put 50 = .ok (.aload_n 0, 1) := by decide +kernel
theorem dX0_put_51 : decode cX0_put 51 = .ok (.getfield 9, 3) := by decide +kernel
theorem dX0_put_54 : decode cX0_put 54 = .ok (.iload 4, 2) := by decide +kernel
theorem dX0_put_56 : decode cX0_put 56 = .ok (.lload 5, 2) := by decide +kernel
theorem dX0_put_58 : decode cX0_put 58 = .ok (.lastore, 1) := by decide +kernel
theorem dX0_put_59 : decode cX0_put 59 = .ok (.iconst 1, 1) := by decide +kernel
theorem dX0_put_60 : decode cX0_put 60 = .ok (.ireturn, 1) := by decide +kernel
theorem dX0_putProducts_0 : decode cX0_putProducts 0 = .ok (.bipush 12, 2) := by decide +kernel
theorem dX0_putProducts_2 : decode cX0_putProducts 2 = .ok (.istore 5, 2) := by decide +kernel
theorem dX0_putProducts_4 : decode cX0_putProducts 4 = .ok (.iload 5, 2) := by decide +kernel
theorem dX0_putProducts_6 : decode cX0_putProducts 6 = .ok (.ifCond .lt 48, 3) := by decide +kernel
theorem dX0_putProducts_9 : decode cX0_putProducts 9 = .ok (.aload 4, 2) := by decide +kernel
theorem dX0_putProducts_11 : decode cX0_putProducts 11 = .ok (.getfield 9, 3) := by decide +kernel
theorem dX0_putProducts_14 : decode cX0_putProducts 14 = .ok (.iload 5, 2) := by decide +kernel
theorem dX0_putProducts_16 : decode cX0_putProducts 16 = .ok (.laload, 1) := by decide +kernel
theorem dX0_putProducts_17 : decode cX0_putProducts 17 = .ok (.lstore 6, 2) := by decide +kernel
theorem dX0_putProducts_19 : decode cX0_putProducts 19 = .ok (.lload 6, 2) := by decide +kernel
theorem dX0_putProducts_21 : decode cX0_putProducts 21 = .ok (.lconst 0, 1) := by decide +kernel
theorem dX0_putProducts_22 : decode cX0_putProducts 22 = .ok (.lcmp, 1) := by decide +kernel
theorem dX0_putProducts_23 : decode cX0_putProducts 23 = .ok (.ifCond .eq 25, 3) := by decide +kernel
theorem dX0_putProducts_26 : decode cX0_putProducts 26 = .ok (.aload_n 0, 1) := by decide +kernel
theorem dX0_putProducts_27 : decode cX0_putProducts 27 = .ok (.iload_n 1, 1) := by decide +kernel
theorem dX0_putProducts_28 : decode cX0_putProducts 28 = .ok (.iload 5, 2) := by decide +kernel
theorem dX0_putProducts_30 : decode cX0_putProducts 30 = .ok (.iadd, 1) := by decide +kernel
theorem dX0_putProducts_31 : decode cX0_putProducts 31 = .ok (.bipush 6, 2) := by decide +kernel
theorem dX0_putProducts_33 : decode cX0_putProducts 33 = .ok (.isub, 1) := by decide +kernel
theorem dX0_putProducts_34 : decode cX0_putProducts 34 = .ok (.lload_n 2, 1) := by decide +kernel
theorem dX0_putProducts_35 : decode cX0_putProducts 35 = .ok (.lload 6, 2) := by decide +kernel
theorem dX0_putProducts_37 : decode cX0_putProducts 37 = .ok (.invokestatic 25, 3) := by decide +kernel
theorem dX0_putProducts_40 : decode cX0_putProducts 40 = .ok (.invokevirtual 29, 3) := by decide +kernel
theorem dX0_putProducts_43 : decode cX0_putProducts 43 = .ok (.ifCond .ne 5, 3) := by decide +kernel
theorem dX0_putProducts_46 : decode cX0_putProducts 46 = .ok (.iconst 0, 1) := by decide +kernel
theorem dX0_putProducts_47 : decode cX0_putProducts 47 = .ok (.ireturn, 1) := by decide +kernel
theorem dX0_putProducts_48 : decode cX0_putProducts 48 = .ok (.iinc 5 (-1), 3) := by decide +kernel
theorem dX0_putProducts_51 : decode cX0_putProducts 51 = .ok (.goto (-47), 3) := by decide +kernel
theorem dX0_putProducts_54 : decode cX0_putProducts 54 = .ok (.iconst 1, 1) := by decide +kernel
theorem dX0_putProducts_55 : decode cX0_putProducts 55 = .ok (.ireturn, 1) := by decide +kernel
theorem dX0_becomeTogether_0 : decode cX0_becomeTogether 0 = .ok (.aload_n 0, 1) := by decide +kernel
theorem dX0_becomeTogether_1 : decode cX0_becomeTogether 1 = .ok (.aload_n 1, 1) := by decide +kernel
theorem dX0_becomeTogether_2 : decode cX0_becomeTogether 2 = .ok (.invokevirtual 33, 3) := by decide +kernel
theorem dX0_becomeTogether_5 : decode cX0_becomeTogether 5 = .ok (.bipush 12, 2) := by decide +kernel
theorem dX0_becomeTogether_7 : decode cX0_becomeTogether 7 = .ok (.istore 4, 2) := by decide +kernel
theorem dX0_becomeTogether_9 : decode cX0_becomeTogether 9 = .ok (.iload 4, 2) := by decide +kernel
theorem dX0_becomeTogether_11 : decode cX0_becomeTogether 11 = .ok (.ifCond .lt 51, 3) := by decide +kernel
theorem dX0_becomeTogether_14 : decode cX0_becomeTogether 14 = .ok (.aload_n 2, 1) := by decide +kernel
theorem dX0_becomeTogether_15 : decode cX0_becomeTogether 15 = .ok (.getfield 9, 3) := by decide +kernel
theorem dX0_becomeTogether_18 : decode cX0_becomeTogether 18 = .ok (.iload 4, 2) := by decide +kernel
theorem dX0_becomeTogether_20 : decode cX0_becomeTogether 20 = .ok (.laload, 1) := by decide +kernel
theorem dX0_becomeTogether_21 : decode cX0_becomeTogether 21 = .ok (.lstore 5, 2) := by decide +kernel
theorem dX0_becomeTogether_23 : decode cX0_becomeTogether 23 = .ok (.lload 5, 2) := by decide +kernel
theorem dX0_becomeTogether_25 : decode cX0_becomeTogether 25 = .ok (.lconst 0, 1) := by decide +kernel
theorem dX0_becomeTogether_26 : decode cX0_becomeTogether 26 = .ok (.lcmp, 1) := by decide +kernel
theorem dX0_becomeTogether_27 : decode cX0_becomeTogether 27 = .ok (.ifCond .eq 29, 3) := by decide +kernel
theorem dX0_becomeTogether_30 : decode cX0_becomeTogether 30 = .ok (.aload_n 0, 1) := by decide +kernel
theorem dX0_becomeTogether_31 : decode cX0_becomeTogether 31 = .ok (.iload 4, 2) := by decide +kernel
theorem dX0_becomeTogether_33 : decode cX0_becomeTogether 33 = .ok (.bipush 6, 2) := by decide +kernel
theorem dX0_becomeTogether_35 : decode cX0_becomeTogether 35 = .ok (.isub, 1) := by decide +kernel
theorem dX0_becomeTogether_36 : decode cX0_becomeTogether 36 = .ok (.iload_n 3, 1) := by decide +kernel
theorem dX0_becomeTogether_37 : decode cX0_becomeTogether 37 = .ok (.ifCond .eq 9, 3) := by decide +kernel
theorem dX0_becomeTogether_40 : decode cX0_becomeTogether 40 = .ok (.lload 5, 2) := by decide +kernel
theorem dX0_becomeTogether_42 : decode cX0_becomeTogether 42 = .ok (.lneg, 1) := by decide +kernel
theorem dX0_becomeTogether_43 : decode cX0_becomeTogether 43 = .ok (.goto 5, 3) := by decide +kernel
theorem dX0_becomeTogether_46 : decode cX0_becomeTogether 46 = .ok (.lload 5, 2) := by decide +kernel
theorem dX0_becomeTogether_48 : decode cX0_becomeTogether 48 = .ok (.invokevirtual 29, 3) := by decide +kernel
theorem dX0_becomeTogether_51 : decode cX0_becomeTogether 51 = .ok (.ifCond .ne 5, 3) := by decide +kernel
theorem dX0_becomeTogether_54 : decode cX0_becomeTogether 54 = .ok (.iconst 0, 1) := by decide +kernel
theorem dX0_becomeTogether_55 : decode cX0_becomeTogether 55 = .ok (.ireturn, 1) := by decide +kernel
theorem dX0_becomeTogether_56 : decode cX0_becomeTogether 56 = .ok (.iinc 4 (-1), 3) := by decide +kernel
theorem dX0_becomeTogether_59 : decode cX0_becomeTogether 59 = .ok (.goto (-50), 3) := by decide +kernel
theorem dX0_becomeTogether_62 : decode cX0_becomeTogether 62 = .ok (.iconst 1, 1) := by decide +kernel
theorem dX0_becomeTogether_63 : decode cX0_becomeTogether 63 = .ok (.ireturn, 1) := by decide +kernel
theorem dX0_becomeProduct_0 : decode cX0_becomeProduct 0 = .ok (.aload_n 0, 1) := by decide +kernel
theorem dX0_becomeProduct_1 : decode cX0_becomeProduct 1 = .ok (.invokevirtual 37, 3) := by decide +kernel
theorem dX0_becomeProduct_4 : decode cX0_becomeProduct 4 = .ok (.bipush 12, 2) := by decide +kernel
theorem dX0_becomeProduct_6 : decode cX0_becomeProduct 6 = .ok (.istore_n 3, 1) := by decide +kernel
theorem dX0_becomeProduct_7 : decode cX0_becomeProduct 7 = .ok (.iload_n 3, 1) := by decide +kernel
theorem dX0_becomeProduct_8 : decode cX0_becomeProduct 8 = .ok (.ifCond .lt 40, 3) := by decide +kernel
theorem dX0_becomeProduct_11 : decode cX0_becomeProduct 11 = .ok (.aload_n 1, 1) := by decide +kernel
theorem dX0_becomeProduct_12 : decode cX0_becomeProduct 12 = .ok (.getfield 9, 3) := by decide +kernel
theorem dX0_becomeProduct_15 : decode cX0_becomeProduct 15 = .ok (.iload_n 3, 1) := by decide +kernel
theorem dX0_becomeProduct_16 : decode cX0_becomeProduct 16 = .ok (.laload, 1) := by decide +kernel
theorem dX0_becomeProduct_17 : decode cX0_becomeProduct 17 = .ok (.lstore 4, 2) := by decide +kernel
theorem dX0_becomeProduct_19 : decode cX0_becomeProduct 19 = .ok (.lload 4, 2) := by decide +kernel
theorem dX0_becomeProduct_21 : decode cX0_becomeProduct 21 = .ok (.lconst 0, 1) := by decide +kernel
theorem dX0_becomeProduct_22 : decode cX0_becomeProduct 22 = .ok (.lcmp, 1) := by decide +kernel
theorem dX0_becomeProduct_23 : decode cX0_becomeProduct 23 = .ok (.ifCond .eq 19, 3) := by decide +kernel
theorem dX0_becomeProduct_26 : decode cX0_becomeProduct 26 = .ok (.aload_n 0, 1) := by decide +kernel
theorem dX0_becomeProduct_27 : decode cX0_becomeProduct 27 = .ok (.iload_n 3, 1) := by decide +kernel
theorem dX0_becomeProduct_28 : decode cX0_becomeProduct 28 = .ok (.bipush 6, 2) := by decide +kernel
theorem dX0_becomeProduct_30 : decode cX0_becomeProduct 30 = .ok (.isub, 1) := by decide +kernel
theorem dX0_becomeProduct_31 : decode cX0_becomeProduct 31 = .ok (.lload 4, 2) := by decide +kernel
theorem dX0_becomeProduct_33 : decode cX0_becomeProduct 33 = .ok (.aload_n 2, 1) := by decide +kernel
theorem dX0_becomeProduct_34 : decode cX0_becomeProduct 34 = .ok (.invokevirtual 40, 3) := by decide +kernel
theorem dX0_becomeProduct_37 : decode cX0_becomeProduct 37 = .ok (.ifCond .ne 5, 3) := by decide +kernel
theorem dX0_becomeProduct_40 : decode cX0_becomeProduct 40 = .ok (.iconst 0, 1) := by decide +kernel
theorem dX0_becomeProduct_41 : decode cX0_becomeProduct 41 = .ok (.ireturn, 1) := by decide +kernel
theorem dX0_becomeProduct_42 : decode cX0_becomeProduct 42 = .ok (.iinc 3 (-1), 3) := by decide +kernel
theorem dX0_becomeProduct_45 : decode cX0_becomeProduct 45 = .ok (.goto (-38), 3) := by decide +kernel
theorem dX0_becomeProduct_48 : decode cX0_becomeProduct 48 = .ok (.iconst 1, 1) := by decide +kernel
theorem dX0_becomeProduct_49 : decode cX0_becomeProduct 49 = .ok (.ireturn, 1) := by decide +kernel
theorem dX1_init_0 : decode cX1_init 0 = .ok (.aload_n 0, 1) := by decide +kernel
theorem dX1_init_1 : decode cX1_init 1 = .ok (.invokespecial 5, 3) := by decide +kernel
theorem dX1_init_4 : decode cX1_init 4 = .ok (.aload_n 0, 1) := by decide +kernel
theorem dX1_init_5 : decode cX1_init 5 = .ok (.bipush 12, 2) := by decide +kernel
theorem dX1_init_7 : decode cX1_init 7 = .ok (.newarray .int, 2) := by decide +kernel
theorem dX1_init_9 : decode cX1_init 9 = .ok (.putfield 11, 3) := by decide +kernel
theorem dX1_init_12 : decode cX1_init 12 = .ok (.aload_n 0, 1) := by decide +kernel
theorem dX1_init_13 : decode cX1_init 13 = .ok (.bipush 12, 2) := by decide +kernel
theorem dX1_init_15 : decode cX1_init 15 = .ok (.newarray .int, 2) := by decide +kernel
theorem dX1_init_17 : decode cX1_init 17 = .ok (.putfield 15, 3) := by decide +kernel
theorem dX1_init_20 : decode cX1_init 20 = .ok (.aload_n 0, 1) := by decide +kernel
theorem dX1_init_21 : decode cX1_init 21 = .ok (.bipush 12, 2) := by decide +kernel
theorem dX1_init_23 : decode cX1_init 23 = .ok (.newarray .long, 2) := by decide +kernel
theorem dX1_init_25 : decode cX1_init 25 = .ok (.putfield 18, 3) := by decide +kernel
theorem dX1_init_28 : decode cX1_init 28 = .ok (.aload_n 0, 1) := by decide +kernel
theorem dX1_init_29 : decode cX1_init 29 = .ok (.bipush (-4), 2) := by decide +kernel
theorem dX1_init_31 : decode cX1_init 31 = .ok (.putfield 22, 3) := by decide +kernel
theorem dX1_init_34 : decode cX1_init 34 = .ok (.aload_n 0, 1) := by decide +kernel
theorem dX1_init_35 : decode cX1_init 35 = .ok (.bipush (-4), 2) := by decide +kernel
theorem dX1_init_37 : decode cX1_init 37 = .ok (.putfield 26, 3) := by decide +kernel
theorem dX1_init_40 : decode cX1_init 40 = .ok (.aload_n 0, 1) := by decide +kernel
theorem dX1_init_41 : decode cX1_init 41 = .ok (.bipush 8, 2) := by decide +kernel
theorem dX1_init_43 : decode cX1_init 43 = .ok (.anewarray 29, 3) := by decide +kernel
theorem dX1_init_46 : decode cX1_init 46 = .ok (.putfield 31, 3) := by decide +kernel
theorem dX1_init_49 : decode cX1_init 49 = .ok (.aload_n 0, 1) := by decide +kernel
theorem dX1_init_50 : decode cX1_init 50 = .ok (.new 29, 3) := by decide +kernel
theorem dX1_init_53 : decode cX1_init 53 = .ok (.dup, 1) := by decide +kernel
theorem dX1_init_54 : decode cX1_init 54 = .ok (.invokespecial 35, 3) := by decide +kernel
theorem dX1_init_57 : decode cX1_init 57 = .ok (.putfield 36, 3) := by decide +kernel
theorem dX1_init_60 : decode cX1_init 60 = .ok (.aload_n 0, 1) := by decide +kernel
theorem dX1_init_61 : decode cX1_init 61 = .ok (.new 29, 3) := by decide +kernel
theorem dX1_init_64 : decode cX1_init 64 = .ok (.dup, 1) := by decide +kernel
theorem dX1_init_65 : decode cX1_init 65 = .ok (.invokespecial 35, 3) := by decide +kernel
theorem dX1_init_68 : decode cX1_init 68 = .ok (.putfield 40, 3) := by decide +kernel
theorem dX1_init_71 : decode cX1_init 71 = .ok (.iconst 0, 1) := by decide +kernel
theorem dX1_init_72 : decode cX1_init 72 = .ok (.istore_n 1, 1) := by decide +kernel
theorem dX1_init_73 : decode cX1_init 73 = .ok (.iload_n 1, 1) := by decide +kernel
theorem dX1_init_74 : decode cX1_init 74 = .ok (.bipush 8, 2) := by decide +kernel
theorem dX1_init_76 : decode cX1_init 76 = .ok (.if_icmp .ge 22, 3) := by decide +kernel
theorem dX1_init_79 : decode cX1_init 79 = .ok (.aload_n 0, 1) := by decide +kernel
theorem dX1_init_80 : decode cX1_init 80 = .ok (.getfield 31, 3) := by decide +kernel
theorem dX1_init_83 : decode cX1_init 83 = .ok (.iload_n 1, 1) := by decide +kernel
theorem dX1_init_84 : decode cX1_init 84 = .ok (.new 29, 3) := by decide +kernel
theorem dX1_init_87 : decode cX1_init 87 = .ok (.dup, 1) := by decide +kernel
theorem dX1_init_88 : decode cX1_init 88 = .ok (.invokespecial 35, 3) := by decide +kernel
theorem dX1_init_91 : decode cX1_init 91 = .ok (.aastore, 1) := by decide +kernel
theorem dX1_init_92 : decode cX1_init 92 = .ok (.iinc 1 1, 3) := by decide +kernel
theorem dX1_init_95 : decode cX1_init 95 = .ok (.goto (-22), 3) := by decide +kernel
theorem dX1_init_98 : decode cX1_init 98 = .ok (.return_, 1) := by decide +kernel
theorem dX1_row_0 : decode cX1_row 0 = .ok (.iload_n 1, 1) := by decide +kernel
theorem dX1_row_1 : decode cX1_row 1 = .ok (.invokestatic 43, 3) := by decide +kernel
theorem dX1_row_4 : decode cX1_row 4 = .ok (.ifCond .eq 19, 3) := by decide +kernel
theorem dX1_row_7 : decode cX1_row 7 = .ok (.iload_n 2, 1) := by decide +kernel
theorem dX1_row_8 : decode cX1_row 8 = .ok (.ifCond .lt 15, 3) := by decide +kernel
theorem dX1_row_11 : decode cX1_row 11 = .ok (.iload_n 2, 1) := by decide +kernel
theorem dX1_row_12 : decode cX1_row 12 = .ok (.bipush 24, 2) := by decide +kernel
theorem dX1_row_14 : decode cX1_row 14 = .ok (.if_icmp .gt 9, 3) := by decide +kernel
theorem dX1_row_17 : decode cX1_row 17 = .ok (.iload_n 3, 1) := by decide +kernel
theorem dX1_row_18 : decode cX1_row 18 = .ok (.iload_n 2, 1) := by decide +kernel
theorem dX1_row_19 : decode cX1_row 19 = .ok (.iushr, 1) := by decide +kernel
theorem dX1_row_20 : decode cX1_row 20 = .ok (.ifCond .eq 5, 3) := by decide +kernel
theorem dX1_row_23 : decode cX1_row 23 = .ok (.iconst (-1), 1) := by decide +kernel
theorem dX1_row_24 : decode cX1_row 24 = .ok (.ireturn, 1) := by decide +kernel
theorem dX1_row_25 : decode cX1_row 25 = .ok (.aload_n 0, 1) := by decide +kernel
theorem dX1_row_26 : decode cX1_row 26 = .ok (.iload_n 1, 1) := by decide +kernel
theorem dX1_row_27 : decode cX1_row 27 = .ok (.iload_n 2, 1) := by decide +kernel
theorem dX1_row_28 : decode cX1_row 28 = .ok (.iload_n 3, 1) := by decide +kernel
theorem dX1_row_29 : decode cX1_row 29 = .ok (.invokevirtual 47, 3) := by decide +kernel
theorem dX1_row_32 : decode cX1_row 32 = .ok (.ireturn, 1) := by decide +kernel
theorem dX1_number_0 : decode cX1_number 0 = .ok (.iload_n 1, 1) := by decide +kernel
theorem dX1_number_1 : decode cX1_number 1 = .ok (.invokestatic 43, 3) := by decide +kernel
theorem dX1_number_4 : decode cX1_number 4 = .ok (.ifCond .eq 11, 3) := by decide +kernel
theorem dX1_number_7 : decode cX1_number 7 = .ok (.iload_n 2, 1) := by decide +kernel
theorem dX1_number_8 : decode cX1_number 8 = .ok (.iload_n 3, 1) := by decide +kernel
theorem dX1_number_9 : decode cX1_number 9 = .ok (.invokestatic 51, 3) := by decide +kernel
theorem dX1_number_12 : decode cX1_number 12 = .ok (.ifCond .ne 5, 3) := by decide +kernel
theorem dX1_number_15 : decode cX1_number 15 = .ok (.iconst (-1), 1) := by decide +kernel
theorem dX1_number_16 : decode cX1_number 16 = .ok (.ireturn, 1) := by decide +kernel
theorem dX1_number_17 : decode cX1_number 17 = .ok (.aload_n 0, 1) := by decide +kernel
theorem dX1_number_18 : decode cX1_number 18 = .ok (.iload_n 1, 1) := by decide +kernel
theorem dX1_number_19 : decode cX1_number 19 = .ok (.iload_n 2, 1) := by decide +kernel
theorem dX1_number_20 : decode cX1_number 20 = .ok (.i2l, 1) := by decide +kernel
theorem dX1_number_21 : decode cX1_number 21 = .ok (.bipush 23, 2) := by decide +kernel
theorem dX1_number_23 : decode cX1_number 23 = .ok (.iload_n 3, 1) := by decide +kernel
theorem dX1_number_24 : decode cX1_number 24 = .ok (.isub, 1) := by decide +kernel
theorem dX1_number_25 : decode cX1_number 25 = .ok (.lshl, 1) := by decide +kernel
theorem dX1_number_26 : decode cX1_number 26 = .ok (.invokevirtual 55, 3) := by decide +kernel
theorem dX1_number_29 : decode cX1_number 29 = .ok (.ireturn, 1) := by decide +kernel
theorem dX1_at_0 : decode cX1_at 0 = .ok (.iload_n 1, 1) := by decide +kernel
theorem dX1_at_1 : decode cX1_at 1 = .ok (.invokestatic 43, 3) := by decide +kernel
theorem dX1_at_4 : decode cX1_at 4 = .ok (.ifCond .eq 8, 3) := by decide +kernel
theorem dX1_at_7 : decode cX1_at 7 = .ok (.iload_n 2, 1) := by decide +kernel
theorem dX1_at_8 : decode cX1_at 8 = .ok (.iconst (-1), 1) := by decide +kernel
theorem dX1_at_9 : decode cX1_at 9 = .ok (.if_icmp .ge 5, 3) := by decide +kernel
theorem dX1_at_12 : decode cX1_at 12 = .ok (.iconst (-1), 1) := by decide +kernel
theorem dX1_at_13 : decode cX1_at 13 = .ok (.ireturn, 1) := by decide +kernel
theorem dX1_at_14 : decode cX1_at 14 = .ok (.iload_n 2, 1) := by decide +kernel
theorem dX1_at_15 : decode cX1_at 15 = .ok (.iconst (-1), 1) := by decide +kernel
theorem dX1_at_16 : decode cX1_at 16 = .ok (.if_icmp .ne 10, 3) := by decide +kernel
theorem dX1_at_19 : decode cX1_at 19 = .ok (.aload_n 0, 1) := by decide +kernel
theorem dX1_at_20 : decode cX1_at 20 = .ok (.getfield 11, 3) := by decide +kernel
theorem dX1_at_23 : decode cX1_at 23 = .ok (.iload_n 1, 1) := by decide +kernel
theorem dX1_at_24 : decode cX1_at 24 = .ok (.iaload, 1) := by decide +kernel
theorem dX1_at_25 : decode cX1_at 25 = .ok (.ireturn, 1) := by decide +kernel
theorem dX1_at_26 : decode cX1_at 26 = .ok (.iload_n 2, 1) := by decide +kernel
theorem dX1_at_27 : decode cX1_at 27 = .ok (.aload_n 0, 1) := by decide +kernel
theorem dX1_at_28 : decode cX1_at 28 = .ok (.getfield 11, 3) := by decide +kernel
theorem dX1_at_31 : decode cX1_at 31 = .ok (.iload_n 1, 1) := by decide +kernel
theorem dX1_at_32 : decode cX1_at 32 = .ok (.iaload, 1) := by decide +kernel
theorem dX1_at_33 : decode cX1_at 33 = .ok (.if_icmp .lt 6, 3) := by decide +kernel
theorem dX1_at_36 : decode cX1_at 36 = .ok (.bipush (-4), 2) := by decide +kernel
theorem dX1_at_38 : decode cX1_at 38 = .ok (.ireturn, 1) := by decide +kernel
theorem dX1_at_39 : decode cX1_at 39 = .ok (.aload_n 0, 1) := by decide +kernel
theorem dX1_at_40 : decode cX1_at 40 = .ok (.getfield 15, 3) := by decide +kernel
theorem dX1_at_43 : decode cX1_at 43 = .ok (.iload_n 1, 1) := by decide +kernel
theorem dX1_at_44 : decode cX1_at 44 = .ok (.iaload, 1) := by decide +kernel
theorem dX1_at_45 : decode cX1_at 45 = .ok (.iload_n 2, 1) := by decide +kernel
theorem dX1_at_46 : decode cX1_at 46 = .ok (.invokestatic 59, 3) := by decide +kernel
theorem dX1_at_49 : decode cX1_at 49 = .ok (.ifCond .eq 7, 3) := by decide +kernel
theorem dX1_at_52 : decode cX1_at 52 = .ok (.iconst 1, 1) := by decide +kernel
theorem dX1_at_53 : decode cX1_at 53 = .ok (.goto 4, 3) := by decide +kernel
theorem dX1_at_56 : decode cX1_at 56 = .ok (.iconst 0, 1) := by decide +kernel
theorem dX1_at_57 : decode cX1_at 57 = .ok (.ireturn, 1) := by decide +kernel
theorem dX1_value_0 : decode cX1_value 0 = .ok (.iload_n 1, 1) := by decide +kernel
theorem dX1_value_1 : decode cX1_value 1 = .ok (.invokestatic 43, 3) := by decide +kernel
theorem dX1_value_4 : decode cX1_value 4 = .ok (.ifCond .eq 12, 3) := by decide +kernel
theorem dX1_value_7 : decode cX1_value 7 = .ok (.iload_n 2, 1) := by decide +kernel
theorem dX1_value_8 : decode cX1_value 8 = .ok (.ifCond .lt 8, 3) := by decide +kernel
theorem dX1_value_11 : decode cX1_value 11 = .ok (.iload_n 2, 1) := by decide +kernel
theorem dX1_value_12 : decode cX1_value 12 = .ok (.iconst 1, 1) := by decide +kernel
theorem dX1_value_13 : decode cX1_value 13 = .ok (.if_icmp .le 6, 3) := by decide +kernel
theorem dX1_value_16 : decode cX1_value 16 = .ok (.ldc 62, 2) := by decide +kernel
theorem dX1_value_18 : decode cX1_value 18 = .ok (.ireturn, 1) := by decide +kernel
theorem dX1_value_19 : decode cX1_value 19 = .ok (.iload_n 2, 1) := by decide +kernel
theorem dX1_value_20 : decode cX1_value 20 = .ok (.ifCond .ne 17, 3) := by decide +kernel
theorem dX1_value_23 : decode cX1_value 23 = .ok (.aload_n 0, 1) := by decide +kernel
theorem dX1_value_24 : decode cX1_value 24 = .ok (.getfield 18, 3) := by decide +kernel
theorem dX1_value_27 : decode cX1_value 27 = .ok (.iload_n 1, 1) := by decide +kernel
theorem dX1_value_28 : decode cX1_value 28 = .ok (.laload, 1) := by decide +kernel
theorem dX1_value_29 : decode cX1_value 29 = .ok (.bipush 23, 2) := by decide +kernel
theorem dX1_value_31 : decode cX1_value 31 = .ok (.invokestatic 63, 3) := by decide +kernel
theorem dX1_value_34 : decode cX1_value 34 = .ok (.goto 14, 3) := by decide +kernel
theorem dX1_value_37 : decode cX1_value 37 = .ok (.aload_n 0, 1) := by decide +kernel
theorem dX1_value_38 : decode cX1_value 38 = .ok (.getfield 18, 3) := by decide +kernel
theorem dX1_value_41 : decode cX1_value 41 = .ok (.iload_n 1, 1) := by decide +kernel
theorem dX1_value_42 : decode cX1_value 42 = .ok (.laload, 1) := by decide +kernel
theorem dX1_value_43 : decode cX1_value 43 = .ok (.bipush 23, 2) := by decide +kernel
theorem dX1_value_45 : decode cX1_value 45 = .ok (.invokestatic 67, 3) := by decide +kernel
theorem dX1_value_48 : decode cX1_value 48 = .ok (.ireturn, 1) := by decide +kernel
theorem dX1_against_0 : decode cX1_against 0 = .ok (.iload_n 1, 1) := by decide +kernel
theorem dX1_against_1 : decode cX1_against 1 = .ok (.invokestatic 43, 3) := by decide +kernel
theorem dX1_against_4 : decode cX1_against 4 = .ok (.ifCond .eq 10, 3) := by decide +kernel
theorem dX1_against_7 : decode cX1_against 7 = .ok (.iload_n 2, 1) := by decide +kernel
theorem dX1_against_8 : decode cX1_against 8 = .ok (.invokestatic 43, 3) := by decide +kernel
theorem dX1_against_11 : decode cX1_against 11 = .ok (.ifCond .ne 6, 3) := by decide +kernel
theorem dX1_against_14 : decode cX1_against 14 = .ok (.bipush (-9), 2) := by decide +kernel
theorem dX1_against_16 : decode cX1_against 16 = .ok (.ireturn, 1) := by decide +kernel
theorem dX1_against_17 : decode cX1_against 17 = .ok (.aload_n 0, 1) := by decide +kernel
theorem dX1_against_18 : decode cX1_against 18 = .ok (.getfield 18, 3) := by decide +kernel
theorem dX1_against_21 : decode cX1_against 21 = .ok (.iload_n 1, 1) := by decide +kernel
theorem dX1_against_22 : decode cX1_against 22 = .ok (.laload, 1) := by decide +kernel
theorem dX1_against_23 : decode cX1_against 23 = .ok (.aload_n 0, 1) := by decide +kernel
theorem dX1_against_24 : decode cX1_against 24 = .ok (.getfield 18, 3) := by decide +kernel
theorem dX1_against_27 : decode cX1_against 27 = .ok (.iload_n 2, 1) := by decide +kernel
theorem dX1_against_28 : decode cX1_against 28 = .ok (.laload, 1) := by decide +kernel
theorem dX1_against_29 : decode cX1_against 29 = .ok (.lsub, 1) := by decide +kernel
theorem dX1_against_30 : decode cX1_against 30 = .ok (.invokestatic 70, 3) := by decide +kernel
theorem dX1_against_33 : decode cX1_against 33 = .ok (.ireturn, 1) := by decide +kernel
theorem dX1_work_0 : decode cX1_work 0 = .ok (.iload_n 1, 1) := by decide +kernel
theorem dX1_work_1 : decode cX1_work 1 = .ok (.invokestatic 43, 3) := by decide +kernel
theorem dX1_work_4 : decode cX1_work 4 = .ok (.ifCond .eq 19, 3) := by decide +kernel
theorem dX1_work_7 : decode cX1_work 7 = .ok (.iload_n 2, 1) := by decide +kernel
theorem dX1_work_8 : decode cX1_work 8 = .ok (.ifCond .lt 15, 3) := by decide +kernel
theorem dX1_work_11 : decode cX1_work 11 = .ok (.iload_n 2, 1) := by decide +kernel
theorem dX1_work_12 : decode cX1_work 12 = .ok (.iconst 3, 1) := by decide +kernel
theorem dX1_work_13 : decode cX1_work 13 = .ok (.if_icmp .gt 10, 3) := by decide +kernel
theorem dX1_work_16 : decode cX1_work 16 = .ok (.iload_n 3, 1) := by decide +kernel
theorem dX1_work_17 : decode cX1_work 17 = .ok (.invokestatic 43, 3) := by decide +kernel
theorem dX1_work_20 : decode cX1_work 20 = .ok (.ifCond .ne 5, 3) := by decide +kernel
theorem dX1_work_23 : decode cX1_work 23 = .ok (.iconst (-1), 1) := by decide +kernel
theorem dX1_work_24 : decode cX1_work 24 = .ok (.ireturn, 1) := by decide +kernel
theorem dX1_work_25 : decode cX1_work 25 = .ok (.iload_n 2, 1) := by decide +kernel
theorem dX1_work_26 : decode cX1_work 26 = .ok (.iconst 3, 1) := by decide +kernel
theorem dX1_work_27 : decode cX1_work 27 = .ok (.if_icmp .ne 16, 3) := by decide +kernel
theorem dX1_work_30 : decode cX1_work 30 = .ok (.aload_n 0, 1) := by decide +kernel
theorem dX1_work_31 : decode cX1_work 31 = .ok (.iload_n 1, 1) := by decide +kernel
theorem dX1_work_32 : decode cX1_work 32 = .ok (.aload_n 0, 1) := by decide +kernel
theorem dX1_work_33 : decode cX1_work 33 = .ok (.getfield 18, 3) := by decide +kernel
theorem dX1_work_36 : decode cX1_work 36 = .ok (.iload_n 3, 1) := by decide +kernel
theorem dX1_work_37 : decode cX1_work 37 = .ok (.laload, 1) := by decide +kernel
theorem dX1_work_38 : decode cX1_work 38 = .ok (.lneg, 1) := by decide +kernel
theorem dX1_work_39 : decode cX1_work 39 = .ok (.invokevirtual 55, 3) := by decide +kernel
theorem dX1_work_42 : decode cX1_work 42 = .ok (.ireturn, 1) := by decide +kernel
theorem dX1_work_43 : decode cX1_work 43 = .ok (.iload 4, 2) := by decide +kernel
theorem dX1_work_45 : decode cX1_work 45 = .ok (.invokestatic 43, 3) := by decide +kernel
theorem dX1_work_48 : decode cX1_work 48 = .ok (.ifCond .ne 5, 3) := by decide +kernel
theorem dX1_work_51 : decode cX1_work 51 = .ok (.iconst (-1), 1) := by decide +kernel
theorem dX1_work_52 : decode cX1_work 52 = .ok (.ireturn, 1) := by decide +kernel
theorem dX1_work_53 : decode cX1_work 53 = .ok (.iload_n 2, 1) := by decide +kernel
theorem dX1_work_54 : decode cX1_work 54 = .ok (.iconst 2, 1) := by decide +kernel
theorem dX1_work_55 : decode cX1_work 55 = .ok (.if_icmp .ne 23, 3) := by decide +kernel
theorem dX1_work_58 : decode cX1_work 58 = .ok (.aload_n 0, 1) := by decide +kernel
theorem dX1_work_59 : decode cX1_work 59 = .ok (.iload_n 1, 1) := by decide +kernel
theorem dX1_work_60 : decode cX1_work 60 = .ok (.aload_n 0, 1) := by decide +kernel
theorem dX1_work_61 : decode cX1_work 61 = .ok (.getfield 18, 3) := by decide +kernel
theorem dX1_work_64 : decode cX1_work 64 = .ok (.iload_n 3, 1) := by decide +kernel
theorem dX1_work_65 : decode cX1_work 65 = .ok (.laload, 1) := by decide +kernel
theorem dX1_work_66 : decode cX1_work 66 = .ok (.aload_n 0, 1) := by decide +kernel
theorem dX1_work_67 : decode cX1_work 67 = .ok (.getfield 18, 3) := by decide +kernel
theorem dX1_work_70 : decode cX1_work 70 = .ok (.iload 4, 2) := by decide +kernel
theorem dX1_work_72 : decode cX1_work 72 = .ok (.laload, 1) := by decide +kernel
theorem dX1_work_73 : decode cX1_work 73 = .ok (.lmul, 1) := by decide +kernel
theorem dX1_work_74 : decode cX1_work 74 = .ok (.invokevirtual 74, 3) := by decide +kernel
theorem dX1_work_77 : decode cX1_work 77 = .ok (.ireturn, 1) := by decide +kernel
theorem dX1_work_78 : decode cX1_work 78 = .ok (.aload_n 0, 1) := by decide +kernel
theorem dX1_work_79 : decode cX1_work 79 = .ok (.iload_n 1, 1) := by decide +kernel
theorem dX1_work_80 : decode cX1_work 80 = .ok (.iload_n 2, 1) := by decide +kernel
theorem dX1_work_81 : decode cX1_work 81 = .ok (.ifCond .ne 20, 3) := by decide +kernel
theorem dX1_work_84 : decode cX1_work 84 = .ok (.aload_n 0, 1) := by decide +kernel
theorem dX1_work_85 : decode cX1_work 85 = .ok (.getfield 18, 3) := by decide +kernel
theorem dX1_work_88 : decode cX1_work 88 = .ok (.iload_n 3, 1) := by decide +kernel
theorem dX1_work_89 : decode cX1_work 89 = .ok (.laload, 1) := by decide +kernel
theorem dX1_work_90 : decode cX1_work 90 = .ok (.aload_n 0, 1) := by decide +kernel
theorem dX1_work_91 : decode cX1_work 91 = .ok (.getfield 18, 3) := by decide +kernel
theorem dX1_work_94 : decode cX1_work 94 = .ok (.iload 4, 2) := by decide +kernel
theorem dX1_work_96 : decode cX1_work 96 = .ok (.laload, 1) := by decide +kernel
theorem dX1_work_97 : decode cX1_work 97 = .ok (.ladd, 1) := by decide +kernel
theorem dX1_work_98 : decode cX1_work 98 = .ok (.goto 17, 3) := by decide +kernel
theorem dX1_work_101 : decode cX1_work 101 = .ok (.aload_n 0, 1) := by decide +kernel
theorem dX1_work_102 : decode cX1_work 102 = .ok (.getfield 18, 3) := by decide +kernel
theorem dX1_work_105 : decode cX1_work 105 = .ok (.iload_n 3, 1) := by decide +kernel
theorem dX1_work_106 : decode cX1_work 106 = .ok (.laload, 1) := by decide +kernel
theorem dX1_work_107 : decode cX1_work 107 = .ok (.aload_n 0, 1) := by decide +kernel
theorem dX1_work_108 : decode cX1_work 108 = .ok (.getfield 18, 3) := by decide +kernel
theorem dX1_work_111 : decode cX1_work 111 = .ok (.iload 4, 2) := by decide +kernel
theorem dX1_work_113 : decode cX1_work 113 = .ok (.laload, 1) := by decide +kernel
theorem dX1_work_114 : decode cX1_work 114 = .ok (.lsub, 1) := by decide +kernel
theorem dX1_work_115 : decode cX1_work 115 = .ok (.invokevirtual 55, 3) := by decide +kernel
theorem dX1_work_118 : decode cX1_work 118 = .ok (.ireturn, 1) := by decide +kernel
theorem dX1_side_0 : decode cX1_side 0 = .ok (.iload_n 1, 1) := by decide +kernel
theorem dX1_side_1 : decode cX1_side 1 = .ok (.invokestatic 43, 3) := by decide +kernel
theorem dX1_side_4 : decode cX1_side 4 = .ok (.ifCond .eq 19, 3) := by decide +kernel
theorem dX1_side_7 : decode cX1_side 7 = .ok (.iload_n 2, 1) := by decide +kernel
theorem dX1_side_8 : decode cX1_side 8 = .ok (.invokestatic 43, 3) := by decide +kernel
theorem dX1_side_11 : decode cX1_side 11 = .ok (.ifCond .eq 12, 3) := by decide +kernel
theorem dX1_side_14 : decode cX1_side 14 = .ok (.iload_n 3, 1) := by decide +kernel
theorem dX1_side_15 : decode cX1_side 15 = .ok (.ifCond .lt 8, 3) := by decide +kernel
theorem dX1_side_18 : decode cX1_side 18 = .ok (.iload_n 3, 1) := by decide +kernel
theorem dX1_side_19 : decode cX1_side 19 = .ok (.iconst 1, 1) := by decide +kernel
theorem dX1_side_20 : decode cX1_side 20 = .ok (.if_icmp .le 5, 3) := by decide +kernel
theorem dX1_side_23 : decode cX1_side 23 = .ok (.iconst (-1), 1) := by decide +kernel
theorem dX1_side_24 : decode cX1_side 24 = .ok (.ireturn, 1) := by decide +kernel
theorem dX1_side_25 : decode cX1_side 25 = .ok (.iload_n 3, 1) := by decide +kernel
theorem dX1_side_26 : decode cX1_side 26 = .ok (.ifCond .ne 7, 3) := by decide +kernel
theorem dX1_side_29 : decode cX1_side 29 = .ok (.iconst 1, 1) := by decide +kernel
theorem dX1_side_30 : decode cX1_side 30 = .ok (.goto 4, 3) := by decide +kernel
theorem dX1_side_33 : decode cX1_side 33 = .ok (.iconst 0, 1) := by decide +kernel
theorem dX1_side_34 : decode cX1_side 34 = .ok (.istore 4, 2) := by decide +kernel
theorem dX1_side_36 : decode cX1_side 36 = .ok (.aload_n 0, 1) := by decide +kernel
theorem dX1_side_37 : decode cX1_side 37 = .ok (.getfield 11, 3) := by decide +kernel
theorem dX1_side_40 : decode cX1_side 40 = .ok (.iload_n 2, 1) := by decide +kernel
theorem dX1_side_41 : decode cX1_side 41 = .ok (.iaload, 1) := by decide +kernel
theorem dX1_side_42 : decode cX1_side 42 = .ok (.iconst 1, 1) := by decide +kernel
theorem dX1_side_43 : decode cX1_side 43 = .ok (.isub, 1) := by decide +kernel
theorem dX1_side_44 : decode cX1_side 44 = .ok (.istore 5, 2) := by decide +kernel
theorem dX1_side_46 : decode cX1_side 46 = .ok (.iload 5, 2) := by decide +kernel
theorem dX1_side_48 : decode cX1_side 48 = .ok (.ifCond .lt 45, 3) := by decide +kernel
theorem dX1_side_51 : decode cX1_side 51 = .ok (.aload_n 0, 1) := by decide +kernel
theorem dX1_side_52 : decode cX1_side 52 = .ok (.getfield 15, 3) := by decide +kernel
theorem dX1_side_55 : decode cX1_side 55 = .ok (.iload_n 2, 1) := by decide +kernel
theorem dX1_side_56 : decode cX1_side 56 = .ok (.iaload, 1) := by decide +kernel
theorem dX1_side_57 : decode cX1_side 57 = .ok (.iload 5, 2) := by decide +kernel
theorem dX1_side_59 : decode cX1_side 59 = .ok (.invokestatic 59, 3) := by decide +kernel
theorem dX1_side_62 : decode cX1_side 62 = .ok (.iload 4, 2) := by decide +kernel
theorem dX1_side_64 : decode cX1_side 64 = .ok (.if_icmp .ne 23, 3) := by decide +kernel
theorem dX1_side_67 : decode cX1_side 67 = .ok (.aload_n 0, 1) := by decide +kernel
theorem dX1_side_68 : decode cX1_side 68 = .ok (.iload_n 1, 1) := by decide +kernel
theorem dX1_side_69 : decode cX1_side 69 = .ok (.iload 5, 2) := by decide +kernel
theorem dX1_side_71 : decode cX1_side 71 = .ok (.aload_n 0, 1) := by decide +kernel
theorem dX1_side_72 : decode cX1_side 72 = .ok (.getfield 15, 3) := by decide +kernel
theorem dX1_side_75 : decode cX1_side 75 = .ok (.iload_n 2, 1) := by decide +kernel
theorem dX1_side_76 : decode cX1_side 76 = .ok (.iaload, 1) := by decide +kernel
theorem dX1_side_77 : decode cX1_side 77 = .ok (.iload 5, 2) := by decide +kernel
theorem dX1_side_79 : decode cX1_side 79 = .ok (.invokestatic 77, 3) := by decide +kernel
theorem dX1_side_82 : decode cX1_side 82 = .ok (.iand, 1) := by decide +kernel
theorem dX1_side_83 : decode cX1_side 83 = .ok (.invokevirtual 47, 3) := by decide +kernel
theorem dX1_side_86 : decode cX1_side 86 = .ok (.ireturn, 1) := by decide +kernel
theorem dX1_side_87 : decode cX1_side 87 = .ok (.iinc 5 (-1), 3) := by decide +kernel
theorem dX1_side_90 : decode cX1_side 90 = .ok (.goto (-44), 3) := by decide +kernel
theorem dX1_side_93 : decode cX1_side 93 = .ok (.bipush (-2), 2) := by decide +kernel
theorem dX1_side_95 : decode cX1_side 95 = .ok (.ireturn, 1) := by decide +kernel
theorem dX1_cut_0 : decode cX1_cut 0 = .ok (.iload_n 1, 1) := by decide +kernel
theorem dX1_cut_1 : decode cX1_cut 1 = .ok (.invokestatic 43, 3) := by decide +kernel
theorem dX1_cut_4 : decode cX1_cut 4 = .ok (.ifCond .eq 17, 3) := by decide +kernel
theorem dX1_cut_7 : decode cX1_cut 7 = .ok (.iload_n 2, 1) := by decide +kernel
theorem dX1_cut_8 : decode cX1_cut 8 = .ok (.invokestatic 81, 3) := by decide +kernel
theorem dX1_cut_11 : decode cX1_cut 11 = .ok (.ifCond .eq 10, 3) := by decide +kernel
theorem dX1_cut_14 : decode cX1_cut 14 = .ok (.iload_n 3, 1) := by decide +kernel
theorem dX1_cut_15 : decode cX1_cut 15 = .ok (.invokestatic 81, 3) := by decide +kernel
theorem dX1_cut_18 : decode cX1_cut 18 = .ok (.ifCond .ne 5, 3) := by decide +kernel
theorem dX1_cut_21 : decode cX1_cut 21 = .ok (.iconst (-1), 1) := by decide +kernel
theorem dX1_cut_22 : decode cX1_cut 22 = .ok (.ireturn, 1) := by decide +kernel
theorem dX1_cut_23 : decode cX1_cut 23 = .ok (.aload_n 0, 1) := by decide +kernel
theorem dX1_cut_24 : decode cX1_cut 24 = .ok (.iload_n 2, 1) := by decide +kernel
theorem dX1_cut_25 : decode cX1_cut 25 = .ok (.iload_n 3, 1) := by decide +kernel
theorem dX1_cut_26 : decode cX1_cut 26 = .ok (.invokevirtual 84, 3) := by decide +kernel
theorem dX1_cut_29 : decode cX1_cut 29 = .ok (.ifCond .eq 6, 3) := by decide +kernel
theorem dX1_cut_32 : decode cX1_cut 32 = .ok (.bipush (-2), 2) := by decide +kernel
theorem dX1_cut_34 : decode cX1_cut 34 = .ok (.ireturn, 1) := by decide +kernel
theorem dX1_cut_35 : decode cX1_cut 35 = .ok (.aload_n 0, 1) := by decide +kernel
theorem dX1_cut_36 : decode cX1_cut 36 = .ok (.iload_n 1, 1) := by decide +kernel
theorem dX1_cut_37 : decode cX1_cut 37 = .ok (.aload_n 0, 1) := by decide +kernel
theorem dX1_cut_38 : decode cX1_cut 38 = .ok (.iload_n 2, 1) := by decide +kernel
theorem dX1_cut_39 : decode cX1_cut 39 = .ok (.invokevirtual 87, 3) := by decide +kernel
theorem dX1_cut_42 : decode cX1_cut 42 = .ok (.aload_n 0, 1) := by decide +kernel
theorem dX1_cut_43 : decode cX1_cut 43 = .ok (.iload_n 3, 1) := by decide +kernel
theorem dX1_cut_44 : decode cX1_cut 44 = .ok (.invokevirtual 91, 3) := by decide +kernel
theorem dX1_cut_47 : decode cX1_cut 47 = .ok (.invokevirtual 94, 3) := by decide +kernel
theorem dX1_cut_50 : decode cX1_cut 50 = .ok (.ireturn, 1) := by decide +kernel
theorem dX1_pair_0 : decode cX1_pair 0 = .ok (.iload_n 1, 1) := by decide +kernel
theorem dX1_pair_1 : decode cX1_pair 1 = .ok (.ifCond .lt 8, 3) := by decide +kernel
theorem dX1_pair_4 : decode cX1_pair 4 = .ok (.iload_n 1, 1) := by decide +kernel
theorem dX1_pair_5 : decode cX1_pair 5 = .ok (.iconst 1, 1) := by decide +kernel
theorem dX1_pair_6 : decode cX1_pair 6 = .ok (.if_icmp .le 5, 3) := by decide +kernel
theorem dX1_pair_9 : decode cX1_pair 9 = .ok (.iconst (-1), 1) := by decide +kernel
theorem dX1_pair_10 : decode cX1_pair 10 = .ok (.ireturn, 1) := by decide +kernel
theorem dX1_pair_11 : decode cX1_pair 11 = .ok (.iload_n 1, 1) := by decide +kernel
theorem dX1_pair_12 : decode cX1_pair 12 = .ok (.ifCond .ne 10, 3) := by decide +kernel
theorem dX1_pair_15 : decode cX1_pair 15 = .ok (.aload_n 0, 1) := by decide +kernel
theorem dX1_pair_16 : decode cX1_pair 16 = .ok (.getfield 22, 3) := by decide +kernel
theorem dX1_pair_19 : decode cX1_pair 19 = .ok (.goto 7, 3) := by decide +kernel
theorem dX1_pair_22 : decode cX1_pair 22 = .ok (.aload_n 0, 1) := by decide +kernel
theorem dX1_pair_23 : decode cX1_pair 23 = .ok (.getfield 26, 3) := by decide +kernel
theorem dX1_pair_26 : decode cX1_pair 26 = .ok (.ireturn, 1) := by decide +kernel
theorem dX1_born_0 : decode cX1_born 0 = .ok (.iload_n 1, 1) := by decide +kernel
theorem dX1_born_1 : decode cX1_born 1 = .ok (.invokestatic 43, 3) := by decide +kernel
theorem dX1_born_4 : decode cX1_born 4 = .ok (.ifCond .eq 21, 3) := by decide +kernel
theorem dX1_born_7 : decode cX1_born 7 = .ok (.iload_n 2, 1) := by decide +kernel
theorem dX1_born_8 : decode cX1_born 8 = .ok (.invokestatic 98, 3) := by decide +kernel
theorem dX1_born_11 : decode cX1_born 11 = .ok (.ifCond .eq 14, 3) := by decide +kernel
theorem dX1_born_14 : decode cX1_born 14 = .ok (.iload_n 3, 1) := by decide +kernel
theorem dX1_born_15 : decode cX1_born 15 = .ok (.ifCond .lt 10, 3) := by decide +kernel
theorem dX1_born_18 : decode cX1_born 18 = .ok (.iload_n 3, 1) := by decide +kernel
theorem dX1_born_19 : decode cX1_born 19 = .ok (.iconst 1, 1) := by decide +kernel
theorem dX1_born_20 : decode cX1_born 20 = .ok (.iload_n 2, 1) := by decide +kernel
theorem dX1_born_21 : decode cX1_born 21 = .ok (.ishl, 1) := by decide +kernel
theorem dX1_born_22 : decode cX1_born 22 = .ok (.if_icmp .lt 5, 3) := by decide +kernel
theorem dX1_born_25 : decode cX1_born 25 = .ok (.iconst (-1), 1) := by decide +kernel
theorem dX1_born_26 : decode cX1_born 26 = .ok (.ireturn, 1) := by decide +kernel
theorem dX1_born_27 : decode cX1_born 27 = .ok (.aload_n 0, 1) := by decide +kernel
theorem dX1_born_28 : decode cX1_born 28 = .ok (.iload_n 1, 1) := by decide +kernel
theorem dX1_born_29 : decode cX1_born 29 = .ok (.iload_n 2, 1) := by decide +kernel
theorem dX1_born_30 : decode cX1_born 30 = .ok (.iload_n 3, 1) := by decide +kernel
theorem dX1_born_31 : decode cX1_born 31 = .ok (.iload_n 2, 1) := by decide +kernel
theorem dX1_born_32 : decode cX1_born 32 = .ok (.invokestatic 101, 3) := by decide +kernel
theorem dX1_born_35 : decode cX1_born 35 = .ok (.invokevirtual 47, 3) := by decide +kernel
theorem dX1_born_38 : decode cX1_born 38 = .ok (.ireturn, 1) := by decide +kernel
theorem dX1_between_0 : decode cX1_between 0 = .ok (.iload_n 1, 1) := by decide +kernel
theorem dX1_between_1 : decode cX1_between 1 = .ok (.invokestatic 43, 3) := by decide +kernel
theorem dX1_between_4 : decode cX1_between 4 = .ok (.ifCond .eq 17, 3) := by decide +kernel
theorem dX1_between_7 : decode cX1_between 7 = .ok (.iload_n 2, 1) := by decide +kernel
theorem dX1_between_8 : decode cX1_between 8 = .ok (.invokestatic 43, 3) := by decide +kernel
theorem dX1_between_11 : decode cX1_between 11 = .ok (.ifCond .eq 10, 3) := by decide +kernel
theorem dX1_between_14 : decode cX1_between 14 = .ok (.iload_n 3, 1) := by decide +kernel
theorem dX1_between_15 : decode cX1_between 15 = .ok (.invokestatic 98, 3) := by decide +kernel
theorem dX1_between_18 : decode cX1_between 18 = .ok (.ifCond .ne 5, 3) := by decide +kernel
theorem dX1_between_21 : decode cX1_between 21 = .ok (.iconst (-1), 1) := by decide +kernel
theorem dX1_between_22 : decode cX1_between 22 = .ok (.ireturn, 1) := by decide +kernel
theorem dX1_between_23 : decode cX1_between 23 = .ok (.aload_n 0, 1) := by decide +kernel
theorem dX1_between_24 : decode cX1_between 24 = .ok (.getfield 18, 3) := by decide +kernel
theorem dX1_between_27 : decode cX1_between 27 = .ok (.iload_n 1, 1) := by decide +kernel
theorem dX1_between_28 : decode cX1_between 28 = .ok (.laload, 1) := by decide +kernel
theorem dX1_between_29 : decode cX1_between 29 = .ok (.aload_n 0, 1) := by decide +kernel
theorem dX1_between_30 : decode cX1_between 30 = .ok (.getfield 18, 3) := by decide +kernel
theorem dX1_between_33 : decode cX1_between 33 = .ok (.iload_n 2, 1) := by decide +kernel
theorem dX1_between_34 : decode cX1_between 34 = .ok (.laload, 1) := by decide +kernel
theorem dX1_between_35 : decode cX1_between 35 = .ok (.lcmp, 1) := by decide +kernel
theorem dX1_between_36 : decode cX1_between 36 = .ok (.ifCond .lt 6, 3) := by decide +kernel
theorem dX1_between_39 : decode cX1_between 39 = .ok (.bipush (-2), 2) := by decide +kernel
theorem dX1_between_41 : decode cX1_between 41 = .ok (.ireturn, 1) := by decide +kernel
theorem dX1_between_42 : decode cX1_between 42 = .ok (.aload_n 0, 1) := by decide +kernel
theorem dX1_between_43 : decode cX1_between 43 = .ok (.getfield 11, 3) := by decide +kernel
theorem dX1_between_46 : decode cX1_between 46 = .ok (.iload_n 1, 1) := by decide +kernel
theorem dX1_between_47 : decode cX1_between 47 = .ok (.iaload, 1) := by decide +kernel
theorem dX1_between_48 : decode cX1_between 48 = .ok (.iload_n 3, 1) := by decide +kernel
theorem dX1_between_49 : decode cX1_between 49 = .ok (.if_icmp .gt 7, 3) := by decide +kernel
theorem dX1_between_52 : decode cX1_between 52 = .ok (.iconst 1, 1) := by decide +kernel
theorem dX1_between_53 : decode cX1_between 53 = .ok (.goto 4, 3) := by decide +kernel
theorem dX1_between_56 : decode cX1_between 56 = .ok (.iconst 0, 1) := by decide +kernel
theorem dX1_between_57 : decode cX1_between 57 = .ok (.istore 4, 2) := by decide +kernel
theorem dX1_between_59 : decode cX1_between 59 = .ok (.aload_n 0, 1) := by decide +kernel
theorem dX1_between_60 : decode cX1_between 60 = .ok (.iload_n 2, 1) := by decide +kernel
theorem dX1_between_61 : decode cX1_between 61 = .ok (.iload_n 3, 1) := by decide +kernel
theorem dX1_between_62 : decode cX1_between 62 = .ok (.invokevirtual 105, 3) := by decide +kernel
theorem dX1_between_65 : decode cX1_between 65 = .ok (.aload_n 0, 1) := by decide +kernel
theorem dX1_between_66 : decode cX1_between 66 = .ok (.iload_n 1, 1) := by decide +kernel
theorem dX1_between_67 : decode cX1_between 67 = .ok (.iload_n 3, 1) := by decide +kernel
theorem dX1_between_68 : decode cX1_between 68 = .ok (.invokevirtual 105, 3) := by decide +kernel
theorem dX1_between_71 : decode cX1_between 71 = .ok (.isub, 1) := by decide +kernel
theorem dX1_between_72 : decode cX1_between 72 = .ok (.iload 4, 2) := by decide +kernel
theorem dX1_between_74 : decode cX1_between 74 = .ok (.isub, 1) := by decide +kernel
theorem dX1_between_75 : decode cX1_between 75 = .ok (.ireturn, 1) := by decide +kernel
theorem dX1_wins_0 : decode cX1_wins 0 = .ok (.iload_n 1, 1) := by decide +kernel
theorem dX1_wins_1 : decode cX1_wins 1 = .ok (.invokestatic 81, 3) := by decide +kernel
theorem dX1_wins_4 : decode cX1_wins 4 = .ok (.ifCond .eq 12, 3) := by decide +kernel
theorem dX1_wins_7 : decode cX1_wins 7 = .ok (.iload_n 2, 1) := by decide +kernel
theorem dX1_wins_8 : decode cX1_wins 8 = .ok (.ifCond .lt 8, 3) := by decide +kernel
theorem dX1_wins_11 : decode cX1_wins 11 = .ok (.iload_n 2, 1) := by decide +kernel
theorem dX1_wins_12 : decode cX1_wins 12 = .ok (.iconst 1, 1) := by decide +kernel
theorem dX1_wins_13 : decode cX1_wins 13 = .ok (.if_icmp .le 5, 3) := by decide +kernel
theorem dX1_wins_16 : decode cX1_wins 16 = .ok (.iconst (-1), 1) := by decide +kernel
theorem dX1_wins_17 : decode cX1_wins 17 = .ok (.ireturn, 1) := by decide +kernel
theorem dX1_wins_18 : decode cX1_wins 18 = .ok (.iconst 0, 1) := by decide +kernel
theorem dX1_wins_19 : decode cX1_wins 19 = .ok (.istore_n 3, 1) := by decide +kernel
theorem dX1_wins_20 : decode cX1_wins 20 = .ok (.lconst 0, 1) := by decide +kernel
theorem dX1_wins_21 : decode cX1_wins 21 = .ok (.lstore 4, 2) := by decide +kernel
theorem dX1_wins_23 : decode cX1_wins 23 = .ok (.iconst 0, 1) := by decide +kernel
theorem dX1_wins_24 : decode cX1_wins 24 = .ok (.istore 6, 2) := by decide +kernel
theorem dX1_wins_26 : decode cX1_wins 26 = .ok (.iload 6, 2) := by decide +kernel
theorem dX1_wins_28 : decode cX1_wins 28 = .ok (.bipush 12, 2) := by decide +kernel
theorem dX1_wins_30 : decode cX1_wins 30 = .ok (.if_icmp .ge 40, 3) := by decide +kernel
theorem dX1_wins_33 : decode cX1_wins 33 = .ok (.iload_n 1, 1) := by decide +kernel
theorem dX1_wins_34 : decode cX1_wins 34 = .ok (.iload 6, 2) := by decide +kernel
theorem dX1_wins_36 : decode cX1_wins 36 = .ok (.invokestatic 108, 3) := by decide +kernel
theorem dX1_wins_39 : decode cX1_wins 39 = .ok (.ifCond .eq 25, 3) := by decide +kernel
theorem dX1_wins_42 : decode cX1_wins 42 = .ok (.iload_n 3, 1) := by decide +kernel
theorem dX1_wins_43 : decode cX1_wins 43 = .ok (.aload_n 0, 1) := by decide +kernel
theorem dX1_wins_44 : decode cX1_wins 44 = .ok (.getfield 11, 3) := by decide +kernel
theorem dX1_wins_47 : decode cX1_wins 47 = .ok (.iload 6, 2) := by decide +kernel
theorem dX1_wins_49 : decode cX1_wins 49 = .ok (.iaload, 1) := by decide +kernel
theorem dX1_wins_50 : decode cX1_wins 50 = .ok (.iadd, 1) := by decide +kernel
theorem dX1_wins_51 : decode cX1_wins 51 = .ok (.istore_n 3, 1) := by decide +kernel
theorem dX1_wins_52 : decode cX1_wins 52 = .ok (.lload 4, 2) := by decide +kernel
theorem dX1_wins_54 : decode cX1_wins 54 = .ok (.aload_n 0, 1) := by decide +kernel
theorem dX1_wins_55 : decode cX1_wins 55 = .ok (.getfield 18, 3) := by decide +kernel
theorem dX1_wins_58 : decode cX1_wins 58 = .ok (.iload 6, 2) := by decide +kernel
theorem dX1_wins_60 : decode cX1_wins 60 = .ok (.laload, 1) := by decide +kernel
theorem dX1_wins_61 : decode cX1_wins 61 = .ok (.ladd, 1) := by decide +kernel
theorem dX1_wins_62 : decode cX1_wins 62 = .ok (.lstore 4, 2) := by decide +kernel
theorem dX1_wins_64 : decode cX1_wins 64 = .ok (.iinc 6 1, 3) := by decide +kernel
theorem dX1_wins_67 : decode cX1_wins 67 = .ok (.goto (-41), 3) := by decide +kernel
theorem dX1_wins_70 : decode cX1_wins 70 = .ok (.iload_n 1, 1) := by decide +kernel
theorem dX1_wins_71 : decode cX1_wins 71 = .ok (.invokestatic 111, 3) := by decide +kernel
theorem dX1_wins_74 : decode cX1_wins 74 = .ok (.iconst 4, 1) := by decide +kernel
theorem dX1_wins_75 : decode cX1_wins 75 = .ok (.if_icmp .gt 9, 3) := by decide +kernel
theorem dX1_wins_78 : decode cX1_wins 78 = .ok (.iload_n 3, 1) := by decide +kernel
theorem dX1_wins_79 : decode cX1_wins 79 = .ok (.bipush 14, 2) := by decide +kernel
theorem dX1_wins_81 : decode cX1_wins 81 = .ok (.if_icmp .le 6, 3) := by decide +kernel
theorem dX1_wins_84 : decode cX1_wins 84 = .ok (.bipush (-2), 2) := by decide +kernel
theorem dX1_wins_86 : decode cX1_wins 86 = .ok (.ireturn, 1) := by decide +kernel
theorem dX1_wins_87 : decode cX1_wins 87 = .ok (.iload_n 2, 1) := by decide +kernel
theorem dX1_wins_88 : decode cX1_wins 88 = .ok (.ifCond .ne 18, 3) := by decide +kernel
theorem dX1_wins_91 : decode cX1_wins 91 = .ok (.lload 4, 2) := by decide +kernel
theorem dX1_wins_93 : decode cX1_wins 93 = .ok (.lconst 0, 1) := by decide +kernel
theorem dX1_wins_94 : decode cX1_wins 94 = .ok (.lcmp, 1) := by decide +kernel
theorem dX1_wins_95 : decode cX1_wins 95 = .ok (.ifCond .le 7, 3) := by decide +kernel
theorem dX1_wins_98 : decode cX1_wins 98 = .ok (.iconst 1, 1) := by decide +kernel
theorem dX1_wins_99 : decode cX1_wins 99 = .ok (.goto 19, 3) := by decide +kernel
theorem dX1_wins_102 : decode cX1_wins 102 = .ok (.iconst 0, 1) := by decide +kernel
theorem dX1_wins_103 : decode cX1_wins 103 = .ok (.goto 15, 3) := by decide +kernel
theorem dX1_wins_106 : decode cX1_wins 106 = .ok (.lload 4, 2) := by decide +kernel
theorem dX1_wins_108 : decode cX1_wins 108 = .ok (.lconst 0, 1) := by decide +kernel
theorem dX1_wins_109 : decode cX1_wins 109 = .ok (.lcmp, 1) := by decide +kernel
theorem dX1_wins_110 : decode cX1_wins 110 = .ok (.ifCond .ge 7, 3) := by decide +kernel
theorem dX1_wins_113 : decode cX1_wins 113 = .ok (.iconst 1, 1) := by decide +kernel
theorem dX1_wins_114 : decode cX1_wins 114 = .ok (.goto 4, 3) := by decide +kernel
theorem dX1_wins_117 : decode cX1_wins 117 = .ok (.iconst 0, 1) := by decide +kernel
theorem dX1_wins_118 : decode cX1_wins 118 = .ok (.istore 6, 2) := by decide +kernel
theorem dX1_wins_120 : decode cX1_wins 120 = .ok (.iload 6, 2) := by decide +kernel
theorem dX1_wins_122 : decode cX1_wins 122 = .ok (.ifCond .eq 7, 3) := by decide +kernel
theorem dX1_wins_125 : decode cX1_wins 125 = .ok (.iconst 1, 1) := by decide +kernel
theorem dX1_wins_126 : decode cX1_wins 126 = .ok (.goto 4, 3) := by decide +kernel
theorem dX1_wins_129 : decode cX1_wins 129 = .ok (.iconst 0, 1) := by decide +kernel
theorem dX1_wins_130 : decode cX1_wins 130 = .ok (.ireturn, 1) := by decide +kernel
theorem dX1_term_0 : decode cX1_term 0 = .ok (.iload_n 1, 1) := by decide +kernel
theorem dX1_term_1 : decode cX1_term 1 = .ok (.invokestatic 116, 3) := by decide +kernel
theorem dX1_term_4 : decode cX1_term 4 = .ok (.ifCond .eq 19, 3) := by decide +kernel
theorem dX1_term_7 : decode cX1_term 7 = .ok (.iload_n 2, 1) := by decide +kernel
theorem dX1_term_8 : decode cX1_term 8 = .ok (.invokestatic 119, 3) := by decide +kernel
theorem dX1_term_11 : decode cX1_term 11 = .ok (.ifCond .eq 12, 3) := by decide +kernel
theorem dX1_term_14 : decode cX1_term 14 = .ok (.iload_n 3, 1) := by decide +kernel
theorem dX1_term_15 : decode cX1_term 15 = .ok (.iload 4, 2) := by decide +kernel
theorem dX1_term_17 : decode cX1_term 17 = .ok (.invokestatic 51, 3) := by decide +kernel
theorem dX1_term_20 : decode cX1_term 20 = .ok (.ifCond .ne 5, 3) := by decide +kernel
theorem dX1_term_23 : decode cX1_term 23 = .ok (.iconst (-1), 1) := by decide +kernel
theorem dX1_term_24 : decode cX1_term 24 = .ok (.ireturn, 1) := by decide +kernel
theorem dX1_term_25 : decode cX1_term 25 = .ok (.aload_n 0, 1) := by decide +kernel
theorem dX1_term_26 : decode cX1_term 26 = .ok (.getfield 31, 3) := by decide +kernel
theorem dX1_term_29 : decode cX1_term 29 = .ok (.iload_n 1, 1) := by decide +kernel
theorem dX1_term_30 : decode cX1_term 30 = .ok (.aaload, 1) := by decide +kernel
theorem dX1_term_31 : decode cX1_term 31 = .ok (.getfield 122, 3) := by decide +kernel
theorem dX1_term_34 : decode cX1_term 34 = .ok (.iload_n 2, 1) := by decide +kernel
theorem dX1_term_35 : decode cX1_term 35 = .ok (.bipush 6, 2) := by decide +kernel
theorem dX1_term_37 : decode cX1_term 37 = .ok (.iadd, 1) := by decide +kernel
theorem dX1_term_38 : decode cX1_term 38 = .ok (.iload_n 3, 1) := by decide +kernel
theorem dX1_term_39 : decode cX1_term 39 = .ok (.i2l, 1) := by decide +kernel
theorem dX1_term_40 : decode cX1_term 40 = .ok (.iload 4, 2) := by decide +kernel
theorem dX1_term_42 : decode cX1_term 42 = .ok (.invokestatic 125, 3) := by decide +kernel
theorem dX1_term_45 : decode cX1_term 45 = .ok (.lastore, 1) := by decide +kernel
theorem dX1_term_46 : decode cX1_term 46 = .ok (.aload_n 0, 1) := by decide +kernel
theorem dX1_term_47 : decode cX1_term 47 = .ok (.getfield 31, 3) := by decide +kernel
theorem dX1_term_50 : decode cX1_term 50 = .ok (.iload_n 1, 1) := by decide +kernel
theorem dX1_term_51 : decode cX1_term 51 = .ok (.aaload, 1) := by decide +kernel
theorem dX1_term_52 : decode cX1_term 52 = .ok (.invokevirtual 129, 3) := by decide +kernel
theorem dX1_term_55 : decode cX1_term 55 = .ok (.ireturn, 1) := by decide +kernel
theorem dX1_told_0 : decode cX1_told 0 = .ok (.iload_n 1, 1) := by decide +kernel
theorem dX1_told_1 : decode cX1_told 1 = .ok (.invokestatic 116, 3) := by decide +kernel
theorem dX1_told_4 : decode cX1_told 4 = .ok (.ifCond .eq 16, 3) := by decide +kernel
theorem dX1_told_7 : decode cX1_told 7 = .ok (.iload_n 2, 1) := by decide +kernel
theorem dX1_told_8 : decode cX1_told 8 = .ok (.ifCond .lt 12, 3) := by decide +kernel
theorem dX1_told_11 : decode cX1_told 11 = .ok (.iload_n 3, 1) := by decide +kernel
theorem dX1_told_12 : decode cX1_told 12 = .ok (.ifCond .lt 8, 3) := by decide +kernel
theorem dX1_told_15 : decode cX1_told 15 = .ok (.iload_n 3, 1) := by decide +kernel
theorem dX1_told_16 : decode cX1_told 16 = .ok (.iconst 2, 1) := by decide +kernel
theorem dX1_told_17 : decode cX1_told 17 = .ok (.if_icmp .le 6, 3) := by decide +kernel
theorem dX1_told_20 : decode cX1_told 20 = .ok (.ldc 133, 2) := by decide +kernel
theorem dX1_told_22 : decode cX1_told 22 = .ok (.ireturn, 1) := by decide +kernel
theorem dX1_told_23 : decode cX1_told 23 = .ok (.aload_n 0, 1) := by decide +kernel
theorem dX1_told_24 : decode cX1_told 24 = .ok (.getfield 31, 3) := by decide +kernel
theorem dX1_told_27 : decode cX1_told 27 = .ok (.iload_n 1, 1) := by decide +kernel
theorem dX1_told_28 : decode cX1_told 28 = .ok (.aaload, 1) := by decide +kernel
theorem dX1_told_29 : decode cX1_told 29 = .ok (.iload_n 2, 1) := by decide +kernel
theorem dX1_told_30 : decode cX1_told 30 = .ok (.invokevirtual 134, 3) := by decide +kernel
theorem dX1_told_33 : decode cX1_told 33 = .ok (.istore 4, 2) := by decide +kernel
theorem dX1_told_35 : decode cX1_told 35 = .ok (.iload 4, 2) := by decide +kernel
theorem dX1_told_37 : decode cX1_told 37 = .ok (.ifCond .ge 6, 3) := by decide +kernel
theorem dX1_told_40 : decode cX1_told 40 = .ok (.ldc 137, 2) := by decide +kernel
theorem dX1_told_42 : decode cX1_told 42 = .ok (.ireturn, 1) := by decide +kernel
theorem dX1_told_43 : decode cX1_told 43 = .ok (.iload_n 3, 1) := by decide +kernel
theorem dX1_told_44 : decode cX1_told 44 = .ok (.ifCond .ne 9, 3) := by decide +kernel
theorem dX1_told_47 : decode cX1_told 47 = .ok (.iload 4, 2) := by decide +kernel
theorem dX1_told_49 : decode cX1_told 49 = .ok (.bipush 6, 2) := by decide +kernel
theorem dX1_told_51 : decode cX1_told 51 = .ok (.isub, 1) := by decide +kernel
theorem dX1_told_52 : decode cX1_told 52 = .ok (.ireturn, 1) := by decide +kernel
theorem dX1_told_53 : decode cX1_told 53 = .ok (.aload_n 0, 1) := by decide +kernel
theorem dX1_told_54 : decode cX1_told 54 = .ok (.getfield 31, 3) := by decide +kernel
theorem dX1_told_57 : decode cX1_told 57 = .ok (.iload_n 1, 1) := by decide +kernel
theorem dX1_told_58 : decode cX1_told 58 = .ok (.aaload, 1) := by decide +kernel
theorem dX1_told_59 : decode cX1_told 59 = .ok (.getfield 122, 3) := by decide +kernel
theorem dX1_told_62 : decode cX1_told 62 = .ok (.iload 4, 2) := by decide +kernel
theorem dX1_told_64 : decode cX1_told 64 = .ok (.laload, 1) := by decide +kernel
theorem dX1_told_65 : decode cX1_told 65 = .ok (.lstore 5, 2) := by decide +kernel
theorem dX1_told_67 : decode cX1_told 67 = .ok (.iload_n 3, 1) := by decide +kernel
theorem dX1_told_68 : decode cX1_told 68 = .ok (.iconst 1, 1) := by decide +kernel
theorem dX1_told_69 : decode cX1_told 69 = .ok (.if_icmp .ne 13, 3) := by decide +kernel
theorem dX1_told_72 : decode cX1_told 72 = .ok (.lload 5, 2) := by decide +kernel
theorem dX1_told_74 : decode cX1_told 74 = .ok (.bipush 20, 2) := by decide +kernel
theorem dX1_told_76 : decode cX1_told 76 = .ok (.invokestatic 63, 3) := by decide +kernel
theorem dX1_told_79 : decode cX1_told 79 = .ok (.goto 10, 3) := by decide +kernel
theorem dX1_told_82 : decode cX1_told 82 = .ok (.lload 5, 2) := by decide +kernel
theorem dX1_told_84 : decode cX1_told 84 = .ok (.bipush 20, 2) := by decide +kernel
theorem dX1_told_86 : decode cX1_told 86 = .ok (.invokestatic 67, 3) := by decide +kernel
theorem dX1_told_89 : decode cX1_told 89 = .ok (.ireturn, 1) := by decide +kernel
theorem dX1_sum_0 : decode cX1_sum 0 = .ok (.iload_n 1, 1) := by decide +kernel
theorem dX1_sum_1 : decode cX1_sum 1 = .ok (.invokestatic 116, 3) := by decide +kernel
theorem dX1_sum_4 : decode cX1_sum 4 = .ok (.ifCond .eq 27, 3) := by decide +kernel
theorem dX1_sum_7 : decode cX1_sum 7 = .ok (.iload_n 2, 1) := by decide +kernel
theorem dX1_sum_8 : decode cX1_sum 8 = .ok (.ifCond .lt 23, 3) := by decide +kernel
theorem dX1_sum_11 : decode cX1_sum 11 = .ok (.iload_n 2, 1) := by decide +kernel
theorem dX1_sum_12 : decode cX1_sum 12 = .ok (.iconst 2, 1) := by decide +kernel
theorem dX1_sum_13 : decode cX1_sum 13 = .ok (.if_icmp .gt 18, 3) := by decide +kernel
theorem dX1_sum_16 : decode cX1_sum 16 = .ok (.iload_n 3, 1) := by decide +kernel
theorem dX1_sum_17 : decode cX1_sum 17 = .ok (.invokestatic 116, 3) := by decide +kernel
theorem dX1_sum_20 : decode cX1_sum 20 = .ok (.ifCond .eq 11, 3) := by decide +kernel
theorem dX1_sum_23 : decode cX1_sum 23 = .ok (.iload 4, 2) := by decide +kernel
theorem dX1_sum_25 : decode cX1_sum 25 = .ok (.invokestatic 116, 3) := by decide +kernel
theorem dX1_sum_28 : decode cX1_sum 28 = .ok (.ifCond .ne 5, 3) := by decide +kernel
theorem dX1_sum_31 : decode cX1_sum 31 = .ok (.iconst (-1), 1) := by decide +kernel
theorem dX1_sum_32 : decode cX1_sum 32 = .ok (.ireturn, 1) := by decide +kernel
theorem dX1_sum_33 : decode cX1_sum 33 = .ok (.iload_n 2, 1) := by decide +kernel
theorem dX1_sum_34 : decode cX1_sum 34 = .ok (.iconst 2, 1) := by decide +kernel
theorem dX1_sum_35 : decode cX1_sum 35 = .ok (.if_icmp .ne 26, 3) := by decide +kernel
theorem dX1_sum_38 : decode cX1_sum 38 = .ok (.aload_n 0, 1) := by decide +kernel
theorem dX1_sum_39 : decode cX1_sum 39 = .ok (.getfield 36, 3) := by decide +kernel
theorem dX1_sum_42 : decode cX1_sum 42 = .ok (.aload_n 0, 1) := by decide +kernel
theorem dX1_sum_43 : decode cX1_sum 43 = .ok (.getfield 31, 3) := by decide +kernel
theorem dX1_sum_46 : decode cX1_sum 46 = .ok (.iload_n 3, 1) := by decide +kernel
theorem dX1_sum_47 : decode cX1_sum 47 = .ok (.aaload, 1) := by decide +kernel
theorem dX1_sum_48 : decode cX1_sum 48 = .ok (.aload_n 0, 1) := by decide +kernel
theorem dX1_sum_49 : decode cX1_sum 49 = .ok (.getfield 31, 3) := by decide +kernel
theorem dX1_sum_52 : decode cX1_sum 52 = .ok (.iload 4, 2) := by decide +kernel
theorem dX1_sum_54 : decode cX1_sum 54 = .ok (.aaload, 1) := by decide +kernel
theorem dX1_sum_55 : decode cX1_sum 55 = .ok (.invokevirtual 138, 3) := by decide +kernel
theorem dX1_sum_58 : decode cX1_sum 58 = .ok (.goto 33, 3) := by decide +kernel
theorem dX1_sum_61 : decode cX1_sum 61 = .ok (.aload_n 0, 1) := by decide +kernel
theorem dX1_sum_62 : decode cX1_sum 62 = .ok (.getfield 36, 3) := by decide +kernel
theorem dX1_sum_65 : decode cX1_sum 65 = .ok (.aload_n 0, 1) := by decide +kernel
theorem dX1_sum_66 : decode cX1_sum 66 = .ok (.getfield 31, 3) := by decide +kernel
theorem dX1_sum_69 : decode cX1_sum 69 = .ok (.iload_n 3, 1) := by decide +kernel
theorem dX1_sum_70 : decode cX1_sum 70 = .ok (.aaload, 1) := by decide +kernel
theorem dX1_sum_71 : decode cX1_sum 71 = .ok (.aload_n 0, 1) := by decide +kernel
theorem dX1_sum_72 : decode cX1_sum 72 = .ok (.getfield 31, 3) := by decide +kernel
theorem dX1_sum_75 : decode cX1_sum 75 = .ok (.iload 4, 2) := by decide +kernel
theorem dX1_sum_77 : decode cX1_sum 77 = .ok (.aaload, 1) := by decide +kernel
theorem dX1_sum_78 : decode cX1_sum 78 = .ok (.iload_n 2, 1) := by decide +kernel
theorem dX1_sum_79 : decode cX1_sum 79 = .ok (.iconst 1, 1) := by decide +kernel
theorem dX1_sum_80 : decode cX1_sum 80 = .ok (.if_icmp .ne 7, 3) := by decide +kernel
theorem dX1_sum_83 : decode cX1_sum 83 = .ok (.iconst 1, 1) := by decide +kernel
theorem dX1_sum_84 : decode cX1_sum 84 = .ok (.goto 4, 3) := by decide +kernel
theorem dX1_sum_87 : decode cX1_sum 87 = .ok (.iconst 0, 1) := by decide +kernel
theorem dX1_sum_88 : decode cX1_sum 88 = .ok (.invokevirtual 142, 3) := by decide +kernel
theorem dX1_sum_91 : decode cX1_sum 91 = .ok (.istore 5, 2) := by decide +kernel
theorem dX1_sum_93 : decode cX1_sum 93 = .ok (.iload 5, 2) := by decide +kernel
theorem dX1_sum_95 : decode cX1_sum 95 = .ok (.ifCond .ne 6, 3) := by decide +kernel
theorem dX1_sum_98 : decode cX1_sum 98 = .ok (.bipush (-5), 2) := by decide +kernel
theorem dX1_sum_100 : decode cX1_sum 100 = .ok (.ireturn, 1) := by decide +kernel
theorem dX1_sum_101 : decode cX1_sum 101 = .ok (.aload_n 0, 1) := by decide +kernel
theorem dX1_sum_102 : decode cX1_sum 102 = .ok (.getfield 31, 3) := by decide +kernel
theorem dX1_sum_105 : decode cX1_sum 105 = .ok (.iload_n 1, 1) := by decide +kernel
theorem dX1_sum_106 : decode cX1_sum 106 = .ok (.aaload, 1) := by decide +kernel
theorem dX1_sum_107 : decode cX1_sum 107 = .ok (.aload_n 0, 1) := by decide +kernel
theorem dX1_sum_108 : decode cX1_sum 108 = .ok (.getfield 36, 3) := by decide +kernel
theorem dX1_sum_111 : decode cX1_sum 111 = .ok (.invokevirtual 146, 3) := by decide +kernel
theorem dX1_sum_114 : decode cX1_sum 114 = .ok (.aload_n 0, 1) := by decide +kernel
theorem dX1_sum_115 : decode cX1_sum 115 = .ok (.getfield 31, 3) := by decide +kernel
theorem dX1_sum_118 : decode cX1_sum 118 = .ok (.iload_n 1, 1) := by decide +kernel
theorem dX1_sum_119 : decode cX1_sum 119 = .ok (.aaload, 1) := by decide +kernel
theorem dX1_sum_120 : decode cX1_sum 120 = .ok (.invokevirtual 129, 3) := by decide +kernel
theorem dX1_sum_123 : decode cX1_sum 123 = .ok (.ireturn, 1) := by decide +kernel
theorem dX1_divide_0 : decode cX1_divide 0 = .ok (.iload_n 1, 1) := by decide +kernel
theorem dX1_divide_1 : decode cX1_divide 1 = .ok (.invokestatic 116, 3) := by decide +kernel
theorem dX1_divide_4 : decode cX1_divide 4 = .ok (.ifCond .eq 43, 3) := by decide +kernel
theorem dX1_divide_7 : decode cX1_divide 7 = .ok (.iload_n 2, 1) := by decide +kernel
theorem dX1_divide_8 : decode cX1_divide 8 = .ok (.invokestatic 116, 3) := by decide +kernel
theorem dX1_divide_11 : decode cX1_divide 11 = .ok (.ifCond .eq 36, 3) := by decide +kernel
theorem dX1_divide_14 : decode cX1_divide 14 = .ok (.iload_n 1, 1) := by decide +kernel
theorem dX1_divide_15 : decode cX1_divide 15 = .ok (.iload_n 2, 1) := by decide +kernel
theorem dX1_divide_16 : decode cX1_divide 16 = .ok (.if_icmp .eq 31, 3) := by decide +kernel
theorem dX1_divide_19 : decode cX1_divide 19 = .ok (.iload_n 3, 1) := by decide +kernel
theorem dX1_divide_20 : decode cX1_divide 20 = .ok (.invokestatic 116, 3) := by decide +kernel
theorem dX1_divide_23 : decode cX1_divide 23 = .ok (.ifCond .eq 24, 3) := by decide +kernel
theorem dX1_divide_26 : decode cX1_divide 26 = .ok (.iload 4, 2) := by decide +kernel
theorem dX1_divide_28 : decode cX1_divide 28 = .ok (.invokestatic 116, 3) := by decide +kernel
theorem dX1_divide_31 : decode cX1_divide 31 = .ok (.ifCond .eq 16, 3) := by decide +kernel
theorem dX1_divide_34 : decode cX1_divide 34 = .ok (.iload 5, 2) := by decide +kernel
theorem dX1_divide_36 : decode cX1_divide 36 = .ok (.iconst 1, 1) := by decide +kernel
theorem dX1_divide_37 : decode cX1_divide 37 = .ok (.if_icmp .lt 10, 3) := by decide +kernel
theorem dX1_divide_40 : decode cX1_divide 40 = .ok (.iload 5, 2) := by decide +kernel
theorem dX1_divide_42 : decode cX1_divide 42 = .ok (.bipush 20, 2) := by decide +kernel
theorem dX1_divide_44 : decode cX1_divide 44 = .ok (.if_icmp .le 5, 3) := by decide +kernel
theorem dX1_divide_47 : decode cX1_divide 47 = .ok (.iconst (-1), 1) := by decide +kernel
theorem dX1_divide_48 : decode cX1_divide 48 = .ok (.ireturn, 1) := by decide +kernel
theorem dX1_divide_49 : decode cX1_divide 49 = .ok (.aload_n 0, 1) := by decide +kernel
theorem dX1_divide_50 : decode cX1_divide 50 = .ok (.getfield 31, 3) := by decide +kernel
theorem dX1_divide_53 : decode cX1_divide 53 = .ok (.iload 4, 2) := by decide +kernel
theorem dX1_divide_55 : decode cX1_divide 55 = .ok (.aaload, 1) := by decide +kernel
theorem dX1_divide_56 : decode cX1_divide 56 = .ok (.astore 6, 2) := by decide +kernel
theorem dX1_divide_58 : decode cX1_divide 58 = .ok (.aload 6, 2) := by decide +kernel
theorem dX1_divide_60 : decode cX1_divide 60 = .ok (.iconst 0, 1) := by decide +kernel
theorem dX1_divide_61 : decode cX1_divide 61 = .ok (.invokevirtual 134, 3) := by decide +kernel
theorem dX1_divide_64 : decode cX1_divide 64 = .ok (.istore 7, 2) := by decide +kernel
theorem dX1_divide_66 : decode cX1_divide 66 = .ok (.iload 7, 2) := by decide +kernel
theorem dX1_divide_68 : decode cX1_divide 68 = .ok (.ifCond .lt 17, 3) := by decide +kernel
theorem dX1_divide_71 : decode cX1_divide 71 = .ok (.aload 6, 2) := by decide +kernel
theorem dX1_divide_73 : decode cX1_divide 73 = .ok (.getfield 122, 3) := by decide +kernel
theorem dX1_divide_76 : decode cX1_divide 76 = .ok (.iload 7, 2) := by decide +kernel
theorem dX1_divide_78 : decode cX1_divide 78 = .ok (.laload, 1) := by decide +kernel
theorem dX1_divide_79 : decode cX1_divide 79 = .ok (.invokestatic 150, 3) := by decide +kernel
theorem dX1_divide_82 : decode cX1_divide 82 = .ok (.ifCond .ne 6, 3) := by decide +kernel
theorem dX1_divide_85 : decode cX1_divide 85 = .ok (.bipush (-2), 2) := by decide +kernel
theorem dX1_divide_87 : decode cX1_divide 87 = .ok (.ireturn, 1) := by decide +kernel
theorem dX1_divide_88 : decode cX1_divide 88 = .ok (.aload_n 0, 1) := by decide +kernel
theorem dX1_divide_89 : decode cX1_divide 89 = .ok (.getfield 36, 3) := by decide +kernel
theorem dX1_divide_92 : decode cX1_divide 92 = .ok (.invokevirtual 154, 3) := by decide +kernel
theorem dX1_divide_95 : decode cX1_divide 95 = .ok (.aload_n 0, 1) := by decide +kernel
theorem dX1_divide_96 : decode cX1_divide 96 = .ok (.getfield 40, 3) := by decide +kernel
theorem dX1_divide_99 : decode cX1_divide 99 = .ok (.aload_n 0, 1) := by decide +kernel
theorem dX1_divide_100 : decode cX1_divide 100 = .ok (.getfield 31, 3) := by decide +kernel
theorem dX1_divide_103 : decode cX1_divide 103 = .ok (.iload_n 3, 1) := by decide +kernel
theorem dX1_divide_104 : decode cX1_divide 104 = .ok (.aaload, 1) := by decide +kernel
theorem dX1_divide_105 : decode cX1_divide 105 = .ok (.invokevirtual 146, 3) := by decide +kernel
theorem dX1_divide_108 : decode cX1_divide 108 = .ok (.iconst 0, 1) := by decide +kernel
theorem dX1_divide_109 : decode cX1_divide 109 = .ok (.istore 8, 2) := by decide +kernel
theorem dX1_divide_111 : decode cX1_divide 111 = .ok (.iload 8, 2) := by decide +kernel
theorem dX1_divide_113 : decode cX1_divide 113 = .ok (.iload 5, 2) := by decide +kernel
theorem dX1_divide_115 : decode cX1_divide 115 = .ok (.if_icmp .ge 53, 3) := by decide +kernel
theorem dX1_divide_118 : decode cX1_divide 118 = .ok (.aload_n 0, 1) := by decide +kernel
theorem dX1_divide_119 : decode cX1_divide 119 = .ok (.getfield 40, 3) := by decide +kernel
theorem dX1_divide_122 : decode cX1_divide 122 = .ok (.iconst 0, 1) := by decide +kernel
theorem dX1_divide_123 : decode cX1_divide 123 = .ok (.invokevirtual 134, 3) := by decide +kernel
theorem dX1_divide_126 : decode cX1_divide 126 = .ok (.istore 9, 2) := by decide +kernel
theorem dX1_divide_128 : decode cX1_divide 128 = .ok (.iload 9, 2) := by decide +kernel
theorem dX1_divide_130 : decode cX1_divide 130 = .ok (.ifCond .lt 38, 3) := by decide +kernel
theorem dX1_divide_133 : decode cX1_divide 133 = .ok (.iload 9, 2) := by decide +kernel
theorem dX1_divide_135 : decode cX1_divide 135 = .ok (.iload 7, 2) := by decide +kernel
theorem dX1_divide_137 : decode cX1_divide 137 = .ok (.isub, 1) := by decide +kernel
theorem dX1_divide_138 : decode cX1_divide 138 = .ok (.bipush (-6), 2) := by decide +kernel
theorem dX1_divide_140 : decode cX1_divide 140 = .ok (.if_icmp .ge 6, 3) := by decide +kernel
theorem dX1_divide_143 : decode cX1_divide 143 = .ok (.goto 25, 3) := by decide +kernel
theorem dX1_divide_146 : decode cX1_divide 146 = .ok (.aload_n 0, 1) := by decide +kernel
theorem dX1_divide_147 : decode cX1_divide 147 = .ok (.aload 6, 2) := by decide +kernel
theorem dX1_divide_149 : decode cX1_divide 149 = .ok (.iload 7, 2) := by decide +kernel
theorem dX1_divide_151 : decode cX1_divide 151 = .ok (.iload 9, 2) := by decide +kernel
theorem dX1_divide_153 : decode cX1_divide 153 = .ok (.invokevirtual 157, 3) := by decide +kernel
theorem dX1_divide_156 : decode cX1_divide 156 = .ok (.ifCond .ne 6, 3) := by decide +kernel
theorem dX1_divide_159 : decode cX1_divide 159 = .ok (.bipush (-5), 2) := by decide +kernel
theorem dX1_divide_161 : decode cX1_divide 161 = .ok (.ireturn, 1) := by decide +kernel
theorem dX1_divide_162 : decode cX1_divide 162 = .ok (.iinc 8 1, 3) := by decide +kernel
theorem dX1_divide_165 : decode cX1_divide 165 = .ok (.goto (-54), 3) := by decide +kernel
theorem dX1_divide_168 : decode cX1_divide 168 = .ok (.aload_n 0, 1) := by decide +kernel
theorem dX1_divide_169 : decode cX1_divide 169 = .ok (.getfield 31, 3) := by decide +kernel
theorem dX1_divide_172 : decode cX1_divide 172 = .ok (.iload_n 1, 1) := by decide +kernel
theorem dX1_divide_173 : decode cX1_divide 173 = .ok (.aaload, 1) := by decide +kernel
theorem dX1_divide_174 : decode cX1_divide 174 = .ok (.aload_n 0, 1) := by decide +kernel
theorem dX1_divide_175 : decode cX1_divide 175 = .ok (.getfield 36, 3) := by decide +kernel
theorem dX1_divide_178 : decode cX1_divide 178 = .ok (.invokevirtual 146, 3) := by decide +kernel
theorem dX1_divide_181 : decode cX1_divide 181 = .ok (.aload_n 0, 1) := by decide +kernel
theorem dX1_divide_182 : decode cX1_divide 182 = .ok (.getfield 31, 3) := by decide +kernel
theorem dX1_divide_185 : decode cX1_divide 185 = .ok (.iload_n 2, 1) := by decide +kernel
theorem dX1_divide_186 : decode cX1_divide 186 = .ok (.aaload, 1) := by decide +kernel
theorem dX1_divide_187 : decode cX1_divide 187 = .ok (.aload_n 0, 1) := by decide +kernel
theorem dX1_divide_188 : decode cX1_divide 188 = .ok (.getfield 40, 3) := by decide +kernel
theorem dX1_divide_191 : decode cX1_divide 191 = .ok (.invokevirtual 146, 3) := by decide +kernel
theorem dX1_divide_194 : decode cX1_divide 194 = .ok (.iload 8, 2) := by decide +kernel
theorem dX1_divide_196 : decode cX1_divide 196 = .ok (.ireturn, 1) := by decide +kernel
theorem dX1_order_0 : decode cX1_order 0 = .ok (.iload_n 1, 1) := by decide +kernel
theorem dX1_order_1 : decode cX1_order 1 = .ok (.invokestatic 116, 3) := by decide +kernel
theorem dX1_order_4 : decode cX1_order 4 = .ok (.ifCond .eq 10, 3) := by decide +kernel
theorem dX1_order_7 : decode cX1_order 7 = .ok (.iload_n 2, 1) := by decide +kernel
theorem dX1_order_8 : decode cX1_order 8 = .ok (.invokestatic 116, 3) := by decide +kernel
theorem dX1_order_11 : decode cX1_order 11 = .ok (.ifCond .ne 6, 3) := by decide +kernel
theorem dX1_order_14 : decode cX1_order 14 = .ok (.bipush (-9), 2) := by decide +kernel
theorem dX1_order_16 : decode cX1_order 16 = .ok (.ireturn, 1) := by decide +kernel
theorem dX1_order_17 : decode cX1_order 17 = .ok (.aload_n 0, 1) := by decide +kernel
theorem dX1_order_18 : decode cX1_order 18 = .ok (.getfield 36, 3) := by decide +kernel
theorem dX1_order_21 : decode cX1_order 21 = .ok (.aload_n 0, 1) := by decide +kernel
theorem dX1_order_22 : decode cX1_order 22 = .ok (.getfield 31, 3) := by decide +kernel
theorem dX1_order_25 : decode cX1_order 25 = .ok (.iload_n 1, 1) := by decide +kernel
theorem dX1_order_26 : decode cX1_order 26 = .ok (.aaload, 1) := by decide +kernel
theorem dX1_order_27 : decode cX1_order 27 = .ok (.aload_n 0, 1) := by decide +kernel
theorem dX1_order_28 : decode cX1_order 28 = .ok (.getfield 31, 3) := by decide +kernel
theorem dX1_order_31 : decode cX1_order 31 = .ok (.iload_n 2, 1) := by decide +kernel
theorem dX1_order_32 : decode cX1_order 32 = .ok (.aaload, 1) := by decide +kernel
theorem dX1_order_33 : decode cX1_order 33 = .ok (.iconst 1, 1) := by decide +kernel
theorem dX1_order_34 : decode cX1_order 34 = .ok (.invokevirtual 142, 3) := by decide +kernel
theorem dX1_order_37 : decode cX1_order 37 = .ok (.ifCond .ne 6, 3) := by decide +kernel
theorem dX1_order_40 : decode cX1_order 40 = .ok (.bipush (-5), 2) := by decide +kernel
theorem dX1_order_42 : decode cX1_order 42 = .ok (.ireturn, 1) := by decide +kernel
theorem dX1_order_43 : decode cX1_order 43 = .ok (.aload_n 0, 1) := by decide +kernel
theorem dX1_order_44 : decode cX1_order 44 = .ok (.getfield 36, 3) := by decide +kernel
theorem dX1_order_47 : decode cX1_order 47 = .ok (.iconst 0, 1) := by decide +kernel
theorem dX1_order_48 : decode cX1_order 48 = .ok (.invokevirtual 134, 3) := by decide +kernel
theorem dX1_order_51 : decode cX1_order 51 = .ok (.istore_n 3, 1) := by decide +kernel
theorem dX1_order_52 : decode cX1_order 52 = .ok (.iload_n 3, 1) := by decide +kernel
theorem dX1_order_53 : decode cX1_order 53 = .ok (.ifCond .ge 7, 3) := by decide +kernel
theorem dX1_order_56 : decode cX1_order 56 = .ok (.iconst 0, 1) := by decide +kernel
theorem dX1_order_57 : decode cX1_order 57 = .ok (.goto 15, 3) := by decide +kernel
theorem dX1_order_60 : decode cX1_order 60 = .ok (.aload_n 0, 1) := by decide +kernel
theorem dX1_order_61 : decode cX1_order 61 = .ok (.getfield 36, 3) := by decide +kernel
theorem dX1_order_64 : decode cX1_order 64 = .ok (.getfield 122, 3) := by decide +kernel
theorem dX1_order_67 : decode cX1_order 67 = .ok (.iload_n 3, 1) := by decide +kernel
theorem dX1_order_68 : decode cX1_order 68 = .ok (.laload, 1) := by decide +kernel
theorem dX1_order_69 : decode cX1_order 69 = .ok (.invokestatic 70, 3) := by decide +kernel
theorem dX1_order_72 : decode cX1_order 72 = .ok (.ireturn, 1) := by decide +kernel
theorem dX1_take_0 : decode cX1_take 0 = .ok (.iload_n 1, 1) := by decide +kernel
theorem dX1_take_1 : decode cX1_take 1 = .ok (.invokestatic 116, 3) := by decide +kernel
theorem dX1_take_4 : decode cX1_take 4 = .ok (.ifCond .eq 10, 3) := by decide +kernel
theorem dX1_take_7 : decode cX1_take 7 = .ok (.iload_n 2, 1) := by decide +kernel
theorem dX1_take_8 : decode cX1_take 8 = .ok (.invokestatic 43, 3) := by decide +kernel
theorem dX1_take_11 : decode cX1_take 11 = .ok (.ifCond .ne 5, 3) := by decide +kernel
theorem dX1_take_14 : decode cX1_take 14 = .ok (.iconst (-1), 1) := by decide +kernel
theorem dX1_take_15 : decode cX1_take 15 = .ok (.ireturn, 1) := by decide +kernel
theorem dX1_take_16 : decode cX1_take 16 = .ok (.aload_n 0, 1) := by decide +kernel
theorem dX1_take_17 : decode cX1_take 17 = .ok (.getfield 18, 3) := by decide +kernel
theorem dX1_take_20 : decode cX1_take 20 = .ok (.iload_n 2, 1) := by decide +kernel
theorem dX1_take_21 : decode cX1_take 21 = .ok (.laload, 1) := by decide +kernel
theorem dX1_take_22 : decode cX1_take 22 = .ok (.bipush 23, 2) := by decide +kernel
theorem dX1_take_24 : decode cX1_take 24 = .ok (.invokestatic 125, 3) := by decide +kernel
theorem dX1_take_27 : decode cX1_take 27 = .ok (.lstore_n 3, 1) := by decide +kernel
theorem dX1_take_28 : decode cX1_take 28 = .ok (.lload_n 3, 1) := by decide +kernel
theorem dX1_take_29 : decode cX1_take 29 = .ok (.ldc2_w 161, 3) := by decide +kernel
theorem dX1_take_32 : decode cX1_take 32 = .ok (.lcmp, 1) := by decide +kernel
theorem dX1_take_33 : decode cX1_take 33 = .ok (.ifCond .ne 6, 3) := by decide +kernel
theorem dX1_take_36 : decode cX1_take 36 = .ok (.bipush (-5), 2) := by decide +kernel
theorem dX1_take_38 : decode cX1_take 38 = .ok (.ireturn, 1) := by decide +kernel
theorem dX1_take_39 : decode cX1_take 39 = .ok (.aload_n 0, 1) := by decide +kernel
theorem dX1_take_40 : decode cX1_take 40 = .ok (.getfield 31, 3) := by decide +kernel
theorem dX1_take_43 : decode cX1_take 43 = .ok (.iload_n 1, 1) := by decide +kernel
theorem dX1_take_44 : decode cX1_take 44 = .ok (.aaload, 1) := by decide +kernel
theorem dX1_take_45 : decode cX1_take 45 = .ok (.invokevirtual 154, 3) := by decide +kernel
theorem dX1_take_48 : decode cX1_take 48 = .ok (.aload_n 0, 1) := by decide +kernel
theorem dX1_take_49 : decode cX1_take 49 = .ok (.getfield 31, 3) := by decide +kernel
theorem dX1_take_52 : decode cX1_take 52 = .ok (.iload_n 1, 1) := by decide +kernel
theorem dX1_take_53 : decode cX1_take 53 = .ok (.aaload, 1) := by decide +kernel
theorem dX1_take_54 : decode cX1_take 54 = .ok (.getfield 122, 3) := by decide +kernel
theorem dX1_take_57 : decode cX1_take 57 = .ok (.bipush 6, 2) := by decide +kernel
theorem dX1_take_59 : decode cX1_take 59 = .ok (.lload_n 3, 1) := by decide +kernel
theorem dX1_take_60 : decode cX1_take 60 = .ok (.lastore, 1) := by decide +kernel
theorem dX1_take_61 : decode cX1_take 61 = .ok (.aload_n 0, 1) := by decide +kernel
theorem dX1_take_62 : decode cX1_take 62 = .ok (.getfield 31, 3) := by decide +kernel
theorem dX1_take_65 : decode cX1_take 65 = .ok (.iload_n 1, 1) := by decide +kernel
theorem dX1_take_66 : decode cX1_take 66 = .ok (.aaload, 1) := by decide +kernel
theorem dX1_take_67 : decode cX1_take 67 = .ok (.invokevirtual 129, 3) := by decide +kernel
theorem dX1_take_70 : decode cX1_take 70 = .ok (.ireturn, 1) := by decide +kernel
theorem dX1_near_0 : decode cX1_near 0 = .ok (.iload_n 1, 1) := by decide +kernel
theorem dX1_near_1 : decode cX1_near 1 = .ok (.invokestatic 43, 3) := by decide +kernel
theorem dX1_near_4 : decode cX1_near 4 = .ok (.ifCond .eq 10, 3) := by decide +kernel
theorem dX1_near_7 : decode cX1_near 7 = .ok (.iload_n 2, 1) := by decide +kernel
theorem dX1_near_8 : decode cX1_near 8 = .ok (.invokestatic 116, 3) := by decide +kernel
theorem dX1_near_11 : decode cX1_near 11 = .ok (.ifCond .ne 5, 3) := by decide +kernel
theorem dX1_near_14 : decode cX1_near 14 = .ok (.iconst (-1), 1) := by decide +kernel
theorem dX1_near_15 : decode cX1_near 15 = .ok (.ireturn, 1) := by decide +kernel
theorem dX1_near_16 : decode cX1_near 16 = .ok (.aload_n 0, 1) := by decide +kernel
theorem dX1_near_17 : decode cX1_near 17 = .ok (.getfield 31, 3) := by decide +kernel
theorem dX1_near_20 : decode cX1_near 20 = .ok (.iload_n 2, 1) := by decide +kernel
theorem dX1_near_21 : decode cX1_near 21 = .ok (.aaload, 1) := by decide +kernel
theorem dX1_near_22 : decode cX1_near 22 = .ok (.iconst 0, 1) := by decide +kernel
theorem dX1_near_23 : decode cX1_near 23 = .ok (.invokevirtual 134, 3) := by decide +kernel
theorem dX1_near_26 : decode cX1_near 26 = .ok (.bipush 6, 2) := by decide +kernel
theorem dX1_near_28 : decode cX1_near 28 = .ok (.if_icmp .le 6, 3) := by decide +kernel
theorem dX1_near_31 : decode cX1_near 31 = .ok (.bipush (-2), 2) := by decide +kernel
theorem dX1_near_33 : decode cX1_near 33 = .ok (.ireturn, 1) := by decide +kernel
theorem dX1_near_34 : decode cX1_near 34 = .ok (.aload_n 0, 1) := by decide +kernel
theorem dX1_near_35 : decode cX1_near 35 = .ok (.iload_n 1, 1) := by decide +kernel
theorem dX1_near_36 : decode cX1_near 36 = .ok (.aload_n 0, 1) := by decide +kernel
theorem dX1_near_37 : decode cX1_near 37 = .ok (.getfield 31, 3) := by decide +kernel
theorem dX1_near_40 : decode cX1_near 40 = .ok (.iload_n 2, 1) := by decide +kernel
theorem dX1_near_41 : decode cX1_near 41 = .ok (.aaload, 1) := by decide +kernel
theorem dX1_near_42 : decode cX1_near 42 = .ok (.getfield 122, 3) := by decide +kernel
theorem dX1_near_45 : decode cX1_near 45 = .ok (.bipush 6, 2) := by decide +kernel
theorem dX1_near_47 : decode cX1_near 47 = .ok (.laload, 1) := by decide +kernel
theorem dX1_near_48 : decode cX1_near 48 = .ok (.iconst 3, 1) := by decide +kernel
theorem dX1_near_49 : decode cX1_near 49 = .ok (.lshl, 1) := by decide +kernel
theorem dX1_near_50 : decode cX1_near 50 = .ok (.invokevirtual 55, 3) := by decide +kernel
theorem dX1_near_53 : decode cX1_near 53 = .ok (.ireturn, 1) := by decide +kernel
theorem dX1_isRegister_0 : decode cX1_isRegister 0 = .ok (.iload_n 0, 1) := by decide +kernel
theorem dX1_isRegister_1 : decode cX1_isRegister 1 = .ok (.ifCond .lt 13, 3) := by decide +kernel
theorem dX1_isRegister_4 : decode cX1_isRegister 4 = .ok (.iload_n 0, 1) := by decide +kernel
theorem dX1_isRegister_5 : decode cX1_isRegister 5 = .ok (.bipush 12, 2) := by decide +kernel
theorem dX1_isRegister_7 : decode cX1_isRegister 7 = .ok (.if_icmp .ge 7, 3) := by decide +kernel
theorem dX1_isRegister_10 : decode cX1_isRegister 10 = .ok (.iconst 1, 1) := by decide +kernel
theorem dX1_isRegister_11 : decode cX1_isRegister 11 = .ok (.goto 4, 3) := by decide +kernel
theorem dX1_isRegister_14 : decode cX1_isRegister 14 = .ok (.iconst 0, 1) := by decide +kernel
theorem dX1_isRegister_15 : decode cX1_isRegister 15 = .ok (.ireturn, 1) := by decide +kernel
theorem dX1_areRegisters_0 : decode cX1_areRegisters 0 = .ok (.iload_n 0, 1) := by decide +kernel
theorem dX1_areRegisters_1 : decode cX1_areRegisters 1 = .ok (.bipush 12, 2) := by decide +kernel
end
section
theorem dX1_areRegisters_3 : decode cX1_areRegisters 3 = .ok (.iushr, 1) := by decide +kernel
theorem dX1_areRegisters_4 : decode cX1_areRegisters 4 = .ok (.ifCond .ne 7, 3) := by decide +kernel
theorem dX1_areRegisters_7 : decode cX1_areRegisters 7 = .ok (.iconst 1, 1) := by decide +kernel
theorem dX1_areRegisters_8 : decode cX1_areRegisters 8 = .ok (.goto 4, 3) := by decide +kernel
theorem dX1_areRegisters_11 : decode cX1_areRegisters 11 = .ok (.iconst 0, 1) := by decide +kernel
theorem dX1_areRegisters_12 : decode cX1_areRegisters 12 = .ok (.ireturn, 1) := by decide +kernel
theorem dX1_isListedDay_0 : decode cX1_isListedDay 0 = .ok (.iload_n 0, 1) := by decide +kernel
theorem dX1_isListedDay_1 : decode cX1_isListedDay 1 = .ok (.ifCond .lt 13, 3) := by decide +kernel
theorem dX1_isListedDay_4 : decode cX1_isListedDay 4 = .ok (.iload_n 0, 1) := by decide +kernel
theorem dX1_isListedDay_5 : decode cX1_isListedDay 5 = .ok (.bipush 20, 2) := by decide +kernel
theorem dX1_isListedDay_7 : decode cX1_isListedDay 7 = .ok (.if_icmp .gt 7, 3) := by decide +kernel
theorem dX1_isListedDay_10 : decode cX1_isListedDay 10 = .ok (.iconst 1, 1) := by decide +kernel
theorem dX1_isListedDay_11 : decode cX1_isListedDay 11 = .ok (.goto 4, 3) := by decide +kernel
theorem dX1_isListedDay_14 : decode cX1_isListedDay 14 = .ok (.iconst 0, 1) := by decide +kernel
theorem dX1_isListedDay_15 : decode cX1_isListedDay 15 = .ok (.ireturn, 1) := by decide +kernel
theorem dX1_isSum_0 : decode cX1_isSum 0 = .ok (.iload_n 0, 1) := by decide +kernel
theorem dX1_isSum_1 : decode cX1_isSum 1 = .ok (.ifCond .lt 13, 3) := by decide +kernel
theorem dX1_isSum_4 : decode cX1_isSum 4 = .ok (.iload_n 0, 1) := by decide +kernel
theorem dX1_isSum_5 : decode cX1_isSum 5 = .ok (.bipush 8, 2) := by decide +kernel
theorem dX1_isSum_7 : decode cX1_isSum 7 = .ok (.if_icmp .ge 7, 3) := by decide +kernel
theorem dX1_isSum_10 : decode cX1_isSum 10 = .ok (.iconst 1, 1) := by decide +kernel
theorem dX1_isSum_11 : decode cX1_isSum 11 = .ok (.goto 4, 3) := by decide +kernel
theorem dX1_isSum_14 : decode cX1_isSum 14 = .ok (.iconst 0, 1) := by decide +kernel
theorem dX1_isSum_15 : decode cX1_isSum 15 = .ok (.ireturn, 1) := by decide +kernel
theorem dX1_isExponent_0 : decode cX1_isExponent 0 = .ok (.iload_n 0, 1) := by decide +kernel
theorem dX1_isExponent_1 : decode cX1_isExponent 1 = .ok (.bipush (-6), 2) := by decide +kernel
theorem dX1_isExponent_3 : decode cX1_isExponent 3 = .ok (.if_icmp .lt 13, 3) := by decide +kernel
theorem dX1_isExponent_6 : decode cX1_isExponent 6 = .ok (.iload_n 0, 1) := by decide +kernel
theorem dX1_isExponent_7 : decode cX1_isExponent 7 = .ok (.bipush 6, 2) := by decide +kernel
theorem dX1_isExponent_9 : decode cX1_isExponent 9 = .ok (.if_icmp .gt 7, 3) := by decide +kernel
theorem dX1_isExponent_12 : decode cX1_isExponent 12 = .ok (.iconst 1, 1) := by decide +kernel
theorem dX1_isExponent_13 : decode cX1_isExponent 13 = .ok (.goto 4, 3) := by decide +kernel
theorem dX1_isExponent_16 : decode cX1_isExponent 16 = .ok (.iconst 0, 1) := by decide +kernel
theorem dX1_isExponent_17 : decode cX1_isExponent 17 = .ok (.ireturn, 1) := by decide +kernel
theorem dX1_isFraction_0 : decode cX1_isFraction 0 = .ok (.iload_n 0, 1) := by decide +kernel
theorem dX1_isFraction_1 : decode cX1_isFraction 1 = .ok (.ldc 62, 2) := by decide +kernel
theorem dX1_isFraction_3 : decode cX1_isFraction 3 = .ok (.if_icmp .lt 23, 3) := by decide +kernel
theorem dX1_isFraction_6 : decode cX1_isFraction 6 = .ok (.iload_n 0, 1) := by decide +kernel
theorem dX1_isFraction_7 : decode cX1_isFraction 7 = .ok (.ldc 163, 2) := by decide +kernel
theorem dX1_isFraction_9 : decode cX1_isFraction 9 = .ok (.if_icmp .gt 17, 3) := by decide +kernel
theorem dX1_isFraction_12 : decode cX1_isFraction 12 = .ok (.iload_n 1, 1) := by decide +kernel
theorem dX1_isFraction_13 : decode cX1_isFraction 13 = .ok (.ifCond .lt 13, 3) := by decide +kernel
theorem dX1_isFraction_16 : decode cX1_isFraction 16 = .ok (.iload_n 1, 1) := by decide +kernel
theorem dX1_isFraction_17 : decode cX1_isFraction 17 = .ok (.bipush 20, 2) := by decide +kernel
theorem dX1_isFraction_19 : decode cX1_isFraction 19 = .ok (.if_icmp .gt 7, 3) := by decide +kernel
theorem dX1_isFraction_22 : decode cX1_isFraction 22 = .ok (.iconst 1, 1) := by decide +kernel
theorem dX1_isFraction_23 : decode cX1_isFraction 23 = .ok (.goto 4, 3) := by decide +kernel
theorem dX1_isFraction_26 : decode cX1_isFraction 26 = .ok (.iconst 0, 1) := by decide +kernel
theorem dX1_isFraction_27 : decode cX1_isFraction 27 = .ok (.ireturn, 1) := by decide +kernel
theorem dX1_has_0 : decode cX1_has 0 = .ok (.iload_n 0, 1) := by decide +kernel
theorem dX1_has_1 : decode cX1_has 1 = .ok (.iload_n 1, 1) := by decide +kernel
theorem dX1_has_2 : decode cX1_has 2 = .ok (.iushr, 1) := by decide +kernel
theorem dX1_has_3 : decode cX1_has 3 = .ok (.iconst 1, 1) := by decide +kernel
theorem dX1_has_4 : decode cX1_has 4 = .ok (.iand, 1) := by decide +kernel
theorem dX1_has_5 : decode cX1_has 5 = .ok (.iconst 1, 1) := by decide +kernel
theorem dX1_has_6 : decode cX1_has 6 = .ok (.if_icmp .ne 7, 3) := by decide +kernel
theorem dX1_has_9 : decode cX1_has 9 = .ok (.iconst 1, 1) := by decide +kernel
theorem dX1_has_10 : decode cX1_has 10 = .ok (.goto 4, 3) := by decide +kernel
theorem dX1_has_13 : decode cX1_has 13 = .ok (.iconst 0, 1) := by decide +kernel
theorem dX1_has_14 : decode cX1_has 14 = .ok (.ireturn, 1) := by decide +kernel
theorem dX1_isPlus_0 : decode cX1_isPlus 0 = .ok (.iload_n 0, 1) := by decide +kernel
theorem dX1_isPlus_1 : decode cX1_isPlus 1 = .ok (.iload_n 1, 1) := by decide +kernel
theorem dX1_isPlus_2 : decode cX1_isPlus 2 = .ok (.invokestatic 108, 3) := by decide +kernel
theorem dX1_isPlus_5 : decode cX1_isPlus 5 = .ok (.ireturn, 1) := by decide +kernel
theorem dX1_lowBits_0 : decode cX1_lowBits 0 = .ok (.iconst 1, 1) := by decide +kernel
theorem dX1_lowBits_1 : decode cX1_lowBits 1 = .ok (.iload_n 0, 1) := by decide +kernel
theorem dX1_lowBits_2 : decode cX1_lowBits 2 = .ok (.ishl, 1) := by decide +kernel
theorem dX1_lowBits_3 : decode cX1_lowBits 3 = .ok (.iconst 1, 1) := by decide +kernel
theorem dX1_lowBits_4 : decode cX1_lowBits 4 = .ok (.isub, 1) := by decide +kernel
theorem dX1_lowBits_5 : decode cX1_lowBits 5 = .ok (.ireturn, 1) := by decide +kernel
theorem dX1_turnedRound_0 : decode cX1_turnedRound 0 = .ok (.iconst 0, 1) := by decide +kernel
theorem dX1_turnedRound_1 : decode cX1_turnedRound 1 = .ok (.istore_n 2, 1) := by decide +kernel
theorem dX1_turnedRound_2 : decode cX1_turnedRound 2 = .ok (.iconst 0, 1) := by decide +kernel
theorem dX1_turnedRound_3 : decode cX1_turnedRound 3 = .ok (.istore_n 3, 1) := by decide +kernel
theorem dX1_turnedRound_4 : decode cX1_turnedRound 4 = .ok (.iload_n 3, 1) := by decide +kernel
theorem dX1_turnedRound_5 : decode cX1_turnedRound 5 = .ok (.iload_n 1, 1) := by decide +kernel
theorem dX1_turnedRound_6 : decode cX1_turnedRound 6 = .ok (.if_icmp .ge 19, 3) := by decide +kernel
theorem dX1_turnedRound_9 : decode cX1_turnedRound 9 = .ok (.iload_n 2, 1) := by decide +kernel
theorem dX1_turnedRound_10 : decode cX1_turnedRound 10 = .ok (.iconst 1, 1) := by decide +kernel
theorem dX1_turnedRound_11 : decode cX1_turnedRound 11 = .ok (.ishl, 1) := by decide +kernel
theorem dX1_turnedRound_12 : decode cX1_turnedRound 12 = .ok (.iload_n 0, 1) := by decide +kernel
theorem dX1_turnedRound_13 : decode cX1_turnedRound 13 = .ok (.iload_n 3, 1) := by decide +kernel
theorem dX1_turnedRound_14 : decode cX1_turnedRound 14 = .ok (.iushr, 1) := by decide +kernel
theorem dX1_turnedRound_15 : decode cX1_turnedRound 15 = .ok (.iconst 1, 1) := by decide +kernel
theorem dX1_turnedRound_16 : decode cX1_turnedRound 16 = .ok (.iand, 1) := by decide +kernel
theorem dX1_turnedRound_17 : decode cX1_turnedRound 17 = .ok (.ior, 1) := by decide +kernel
theorem dX1_turnedRound_18 : decode cX1_turnedRound 18 = .ok (.istore_n 2, 1) := by decide +kernel
theorem dX1_turnedRound_19 : decode cX1_turnedRound 19 = .ok (.iinc 3 1, 3) := by decide +kernel
theorem dX1_turnedRound_22 : decode cX1_turnedRound 22 = .ok (.goto (-18), 3) := by decide +kernel
theorem dX1_turnedRound_25 : decode cX1_turnedRound 25 = .ok (.iload_n 2, 1) := by decide +kernel
theorem dX1_turnedRound_26 : decode cX1_turnedRound 26 = .ok (.ireturn, 1) := by decide +kernel
theorem dX1_signOf_0 : decode cX1_signOf 0 = .ok (.lload_n 0, 1) := by decide +kernel
theorem dX1_signOf_1 : decode cX1_signOf 1 = .ok (.lconst 0, 1) := by decide +kernel
theorem dX1_signOf_2 : decode cX1_signOf 2 = .ok (.lcmp, 1) := by decide +kernel
theorem dX1_signOf_3 : decode cX1_signOf 3 = .ok (.ifCond .ne 5, 3) := by decide +kernel
theorem dX1_signOf_6 : decode cX1_signOf 6 = .ok (.iconst 0, 1) := by decide +kernel
theorem dX1_signOf_7 : decode cX1_signOf 7 = .ok (.ireturn, 1) := by decide +kernel
theorem dX1_signOf_8 : decode cX1_signOf 8 = .ok (.lload_n 0, 1) := by decide +kernel
theorem dX1_signOf_9 : decode cX1_signOf 9 = .ok (.lconst 0, 1) := by decide +kernel
theorem dX1_signOf_10 : decode cX1_signOf 10 = .ok (.lcmp, 1) := by decide +kernel
theorem dX1_signOf_11 : decode cX1_signOf 11 = .ok (.ifCond .ge 7, 3) := by decide +kernel
theorem dX1_signOf_14 : decode cX1_signOf 14 = .ok (.iconst (-1), 1) := by decide +kernel
theorem dX1_signOf_15 : decode cX1_signOf 15 = .ok (.goto 4, 3) := by decide +kernel
theorem dX1_signOf_18 : decode cX1_signOf 18 = .ok (.iconst 1, 1) := by decide +kernel
theorem dX1_signOf_19 : decode cX1_signOf 19 = .ok (.ireturn, 1) := by decide +kernel
theorem dX1_isPowerOfTwo_0 : decode cX1_isPowerOfTwo 0 = .ok (.lload_n 0, 1) := by decide +kernel
theorem dX1_isPowerOfTwo_1 : decode cX1_isPowerOfTwo 1 = .ok (.invokestatic 164, 3) := by decide +kernel
theorem dX1_isPowerOfTwo_4 : decode cX1_isPowerOfTwo 4 = .ok (.invokestatic 170, 3) := by decide +kernel
theorem dX1_isPowerOfTwo_7 : decode cX1_isPowerOfTwo 7 = .ok (.iconst 1, 1) := by decide +kernel
theorem dX1_isPowerOfTwo_8 : decode cX1_isPowerOfTwo 8 = .ok (.if_icmp .ne 7, 3) := by decide +kernel
theorem dX1_isPowerOfTwo_11 : decode cX1_isPowerOfTwo 11 = .ok (.iconst 1, 1) := by decide +kernel
theorem dX1_isPowerOfTwo_12 : decode cX1_isPowerOfTwo 12 = .ok (.goto 4, 3) := by decide +kernel
theorem dX1_isPowerOfTwo_15 : decode cX1_isPowerOfTwo 15 = .ok (.iconst 0, 1) := by decide +kernel
theorem dX1_isPowerOfTwo_16 : decode cX1_isPowerOfTwo 16 = .ok (.ireturn, 1) := by decide +kernel
theorem dX1_halvings_0 : decode cX1_halvings 0 = .ok (.lload_n 0, 1) := by decide +kernel
theorem dX1_halvings_1 : decode cX1_halvings 1 = .ok (.lload_n 0, 1) := by decide +kernel
theorem dX1_halvings_2 : decode cX1_halvings 2 = .ok (.lneg, 1) := by decide +kernel
theorem dX1_halvings_3 : decode cX1_halvings 3 = .ok (.land, 1) := by decide +kernel
theorem dX1_halvings_4 : decode cX1_halvings 4 = .ok (.lconst 1, 1) := by decide +kernel
theorem dX1_halvings_5 : decode cX1_halvings 5 = .ok (.lsub, 1) := by decide +kernel
theorem dX1_halvings_6 : decode cX1_halvings 6 = .ok (.invokestatic 170, 3) := by decide +kernel
theorem dX1_halvings_9 : decode cX1_halvings 9 = .ok (.ireturn, 1) := by decide +kernel
theorem dX1_leastBelow_0 : decode cX1_leastBelow 0 = .ok (.iconst 0, 1) := by decide +kernel
theorem dX1_leastBelow_1 : decode cX1_leastBelow 1 = .ok (.iload_n 2, 1) := by decide +kernel
theorem dX1_leastBelow_2 : decode cX1_leastBelow 2 = .ok (.lload_n 0, 1) := by decide +kernel
theorem dX1_leastBelow_3 : decode cX1_leastBelow 3 = .ok (.invokestatic 172, 3) := by decide +kernel
theorem dX1_leastBelow_6 : decode cX1_leastBelow 6 = .ok (.isub, 1) := by decide +kernel
theorem dX1_leastBelow_7 : decode cX1_leastBelow 7 = .ok (.invokestatic 175, 3) := by decide +kernel
theorem dX1_leastBelow_10 : decode cX1_leastBelow 10 = .ok (.ireturn, 1) := by decide +kernel
theorem dX1_leastAbove_0 : decode cX1_leastAbove 0 = .ok (.lload_n 0, 1) := by decide +kernel
theorem dX1_leastAbove_1 : decode cX1_leastAbove 1 = .ok (.iload_n 2, 1) := by decide +kernel
theorem dX1_leastAbove_2 : decode cX1_leastAbove 2 = .ok (.lload_n 0, 1) := by decide +kernel
theorem dX1_leastAbove_3 : decode cX1_leastAbove 3 = .ok (.iload_n 2, 1) := by decide +kernel
theorem dX1_leastAbove_4 : decode cX1_leastAbove 4 = .ok (.invokestatic 67, 3) := by decide +kernel
theorem dX1_leastAbove_7 : decode cX1_leastAbove 7 = .ok (.isub, 1) := by decide +kernel
theorem dX1_leastAbove_8 : decode cX1_leastAbove 8 = .ok (.lshr, 1) := by decide +kernel
theorem dX1_leastAbove_9 : decode cX1_leastAbove 9 = .ok (.l2i, 1) := by decide +kernel
theorem dX1_leastAbove_10 : decode cX1_leastAbove 10 = .ok (.ireturn, 1) := by decide +kernel
theorem dX1_factorOf_0 : decode cX1_factorOf 0 = .ok (.lload_n 0, 1) := by decide +kernel
theorem dX1_factorOf_1 : decode cX1_factorOf 1 = .ok (.iload_n 2, 1) := by decide +kernel
theorem dX1_factorOf_2 : decode cX1_factorOf 2 = .ok (.invokestatic 67, 3) := by decide +kernel
theorem dX1_factorOf_5 : decode cX1_factorOf 5 = .ok (.istore_n 3, 1) := by decide +kernel
theorem dX1_factorOf_6 : decode cX1_factorOf 6 = .ok (.lload_n 0, 1) := by decide +kernel
theorem dX1_factorOf_7 : decode cX1_factorOf 7 = .ok (.iload_n 2, 1) := by decide +kernel
theorem dX1_factorOf_8 : decode cX1_factorOf 8 = .ok (.iload_n 3, 1) := by decide +kernel
theorem dX1_factorOf_9 : decode cX1_factorOf 9 = .ok (.isub, 1) := by decide +kernel
theorem dX1_factorOf_10 : decode cX1_factorOf 10 = .ok (.lshr, 1) := by decide +kernel
theorem dX1_factorOf_11 : decode cX1_factorOf 11 = .ok (.lstore 4, 2) := by decide +kernel
theorem dX1_factorOf_13 : decode cX1_factorOf 13 = .ok (.iload_n 3, 1) := by decide +kernel
theorem dX1_factorOf_14 : decode cX1_factorOf 14 = .ok (.bipush 20, 2) := by decide +kernel
theorem dX1_factorOf_16 : decode cX1_factorOf 16 = .ok (.if_icmp .gt 21, 3) := by decide +kernel
theorem dX1_factorOf_19 : decode cX1_factorOf 19 = .ok (.lload 4, 2) := by decide +kernel
theorem dX1_factorOf_21 : decode cX1_factorOf 21 = .ok (.ldc2_w 178, 3) := by decide +kernel
theorem dX1_factorOf_24 : decode cX1_factorOf 24 = .ok (.lcmp, 1) := by decide +kernel
theorem dX1_factorOf_25 : decode cX1_factorOf 25 = .ok (.ifCond .lt 12, 3) := by decide +kernel
theorem dX1_factorOf_28 : decode cX1_factorOf 28 = .ok (.lload 4, 2) := by decide +kernel
theorem dX1_factorOf_30 : decode cX1_factorOf 30 = .ok (.ldc2_w 180, 3) := by decide +kernel
theorem dX1_factorOf_33 : decode cX1_factorOf 33 = .ok (.lcmp, 1) := by decide +kernel
theorem dX1_factorOf_34 : decode cX1_factorOf 34 = .ok (.ifCond .le 7, 3) := by decide +kernel
theorem dX1_factorOf_37 : decode cX1_factorOf 37 = .ok (.ldc2_w 161, 3) := by decide +kernel
theorem dX1_factorOf_40 : decode cX1_factorOf 40 = .ok (.lreturn, 1) := by decide +kernel
theorem dX1_factorOf_41 : decode cX1_factorOf 41 = .ok (.lload 4, 2) := by decide +kernel
theorem dX1_factorOf_43 : decode cX1_factorOf 43 = .ok (.bipush 20, 2) := by decide +kernel
theorem dX1_factorOf_45 : decode cX1_factorOf 45 = .ok (.iload_n 3, 1) := by decide +kernel
theorem dX1_factorOf_46 : decode cX1_factorOf 46 = .ok (.isub, 1) := by decide +kernel
theorem dX1_factorOf_47 : decode cX1_factorOf 47 = .ok (.lshl, 1) := by decide +kernel
theorem dX1_factorOf_48 : decode cX1_factorOf 48 = .ok (.lreturn, 1) := by decide +kernel
theorem dX1_factorProduct_0 : decode cX1_factorProduct 0 = .ok (.lload_n 0, 1) := by decide +kernel
theorem dX1_factorProduct_1 : decode cX1_factorProduct 1 = .ok (.bipush 20, 2) := by decide +kernel
theorem dX1_factorProduct_3 : decode cX1_factorProduct 3 = .ok (.invokestatic 63, 3) := by decide +kernel
theorem dX1_factorProduct_6 : decode cX1_factorProduct 6 = .ok (.i2l, 1) := by decide +kernel
theorem dX1_factorProduct_7 : decode cX1_factorProduct 7 = .ok (.lload_n 2, 1) := by decide +kernel
theorem dX1_factorProduct_8 : decode cX1_factorProduct 8 = .ok (.bipush 20, 2) := by decide +kernel
theorem dX1_factorProduct_10 : decode cX1_factorProduct 10 = .ok (.invokestatic 63, 3) := by decide +kernel
theorem dX1_factorProduct_13 : decode cX1_factorProduct 13 = .ok (.i2l, 1) := by decide +kernel
theorem dX1_factorProduct_14 : decode cX1_factorProduct 14 = .ok (.lmul, 1) := by decide +kernel
theorem dX1_factorProduct_15 : decode cX1_factorProduct 15 = .ok (.lstore 4, 2) := by decide +kernel
theorem dX1_factorProduct_17 : decode cX1_factorProduct 17 = .ok (.lload 4, 2) := by decide +kernel
theorem dX1_factorProduct_19 : decode cX1_factorProduct 19 = .ok (.lload_n 0, 1) := by decide +kernel
theorem dX1_factorProduct_20 : decode cX1_factorProduct 20 = .ok (.bipush 20, 2) := by decide +kernel
theorem dX1_factorProduct_22 : decode cX1_factorProduct 22 = .ok (.invokestatic 67, 3) := by decide +kernel
theorem dX1_factorProduct_25 : decode cX1_factorProduct 25 = .ok (.lload_n 2, 1) := by decide +kernel
theorem dX1_factorProduct_26 : decode cX1_factorProduct 26 = .ok (.bipush 20, 2) := by decide +kernel
theorem dX1_factorProduct_28 : decode cX1_factorProduct 28 = .ok (.invokestatic 67, 3) := by decide +kernel
theorem dX1_factorProduct_31 : decode cX1_factorProduct 31 = .ok (.iadd, 1) := by decide +kernel
theorem dX1_factorProduct_32 : decode cX1_factorProduct 32 = .ok (.invokestatic 125, 3) := by decide +kernel
theorem dX1_factorProduct_35 : decode cX1_factorProduct 35 = .ok (.lreturn, 1) := by decide +kernel
theorem dX1_factorQuotient_0 : decode cX1_factorQuotient 0 = .ok (.lload_n 2, 1) := by decide +kernel
theorem dX1_factorQuotient_1 : decode cX1_factorQuotient 1 = .ok (.lconst 0, 1) := by decide +kernel
theorem dX1_factorQuotient_2 : decode cX1_factorQuotient 2 = .ok (.lcmp, 1) := by decide +kernel
theorem dX1_factorQuotient_3 : decode cX1_factorQuotient 3 = .ok (.ifCond .ge 8, 3) := by decide +kernel
theorem dX1_factorQuotient_6 : decode cX1_factorQuotient 6 = .ok (.lload_n 0, 1) := by decide +kernel
theorem dX1_factorQuotient_7 : decode cX1_factorQuotient 7 = .ok (.lneg, 1) := by decide +kernel
theorem dX1_factorQuotient_8 : decode cX1_factorQuotient 8 = .ok (.goto 4, 3) := by decide +kernel
theorem dX1_factorQuotient_11 : decode cX1_factorQuotient 11 = .ok (.lload_n 0, 1) := by decide +kernel
theorem dX1_factorQuotient_12 : decode cX1_factorQuotient 12 = .ok (.lload_n 2, 1) := by decide +kernel
theorem dX1_factorQuotient_13 : decode cX1_factorQuotient 13 = .ok (.invokestatic 172, 3) := by decide +kernel
theorem dX1_factorQuotient_16 : decode cX1_factorQuotient 16 = .ok (.invokestatic 125, 3) := by decide +kernel
theorem dX1_factorQuotient_19 : decode cX1_factorQuotient 19 = .ok (.lreturn, 1) := by decide +kernel
theorem dX1_hold_0 : decode cX1_hold 0 = .ok (.aload_n 0, 1) := by decide +kernel
theorem dX1_hold_1 : decode cX1_hold 1 = .ok (.getfield 11, 3) := by decide +kernel
theorem dX1_hold_4 : decode cX1_hold 4 = .ok (.iload_n 1, 1) := by decide +kernel
theorem dX1_hold_5 : decode cX1_hold 5 = .ok (.iload_n 2, 1) := by decide +kernel
theorem dX1_hold_6 : decode cX1_hold 6 = .ok (.iastore, 1) := by decide +kernel
theorem dX1_hold_7 : decode cX1_hold 7 = .ok (.aload_n 0, 1) := by decide +kernel
theorem dX1_hold_8 : decode cX1_hold 8 = .ok (.getfield 15, 3) := by decide +kernel
theorem dX1_hold_11 : decode cX1_hold 11 = .ok (.iload_n 1, 1) := by decide +kernel
theorem dX1_hold_12 : decode cX1_hold 12 = .ok (.iload_n 3, 1) := by decide +kernel
theorem dX1_hold_13 : decode cX1_hold 13 = .ok (.iastore, 1) := by decide +kernel
theorem dX1_hold_14 : decode cX1_hold 14 = .ok (.aload_n 0, 1) := by decide +kernel
theorem dX1_hold_15 : decode cX1_hold 15 = .ok (.getfield 18, 3) := by decide +kernel
theorem dX1_hold_18 : decode cX1_hold 18 = .ok (.iload_n 1, 1) := by decide +kernel
theorem dX1_hold_19 : decode cX1_hold 19 = .ok (.iload_n 2, 1) := by decide +kernel
theorem dX1_hold_20 : decode cX1_hold 20 = .ok (.iload_n 3, 1) := by decide +kernel
theorem dX1_hold_21 : decode cX1_hold 21 = .ok (.invokestatic 182, 3) := by decide +kernel
theorem dX1_hold_24 : decode cX1_hold 24 = .ok (.lastore, 1) := by decide +kernel
theorem dX1_hold_25 : decode cX1_hold 25 = .ok (.iload_n 2, 1) := by decide +kernel
theorem dX1_hold_26 : decode cX1_hold 26 = .ok (.ireturn, 1) := by decide +kernel
theorem dX1_worth_0 : decode cX1_worth 0 = .ok (.iload_n 1, 1) := by decide +kernel
theorem dX1_worth_1 : decode cX1_worth 1 = .ok (.iconst 0, 1) := by decide +kernel
theorem dX1_worth_2 : decode cX1_worth 2 = .ok (.invokestatic 59, 3) := by decide +kernel
theorem dX1_worth_5 : decode cX1_worth 5 = .ok (.istore_n 2, 1) := by decide +kernel
theorem dX1_worth_6 : decode cX1_worth 6 = .ok (.iconst 1, 1) := by decide +kernel
theorem dX1_worth_7 : decode cX1_worth 7 = .ok (.istore_n 3, 1) := by decide +kernel
theorem dX1_worth_8 : decode cX1_worth 8 = .ok (.ldc2_w 186, 3) := by decide +kernel
theorem dX1_worth_11 : decode cX1_worth 11 = .ok (.lstore 4, 2) := by decide +kernel
theorem dX1_worth_13 : decode cX1_worth 13 = .ok (.lconst 0, 1) := by decide +kernel
theorem dX1_worth_14 : decode cX1_worth 14 = .ok (.lstore 6, 2) := by decide +kernel
theorem dX1_worth_16 : decode cX1_worth 16 = .ok (.iconst 0, 1) := by decide +kernel
theorem dX1_worth_17 : decode cX1_worth 17 = .ok (.istore 8, 2) := by decide +kernel
theorem dX1_worth_19 : decode cX1_worth 19 = .ok (.iload 8, 2) := by decide +kernel
theorem dX1_worth_21 : decode cX1_worth 21 = .ok (.iload_n 0, 1) := by decide +kernel
theorem dX1_worth_22 : decode cX1_worth 22 = .ok (.if_icmp .ge 63, 3) := by decide +kernel
theorem dX1_worth_25 : decode cX1_worth 25 = .ok (.iload_n 1, 1) := by decide +kernel
theorem dX1_worth_26 : decode cX1_worth 26 = .ok (.iload 8, 2) := by decide +kernel
theorem dX1_worth_28 : decode cX1_worth 28 = .ok (.invokestatic 59, 3) := by decide +kernel
theorem dX1_worth_31 : decode cX1_worth 31 = .ok (.istore 9, 2) := by decide +kernel
theorem dX1_worth_33 : decode cX1_worth 33 = .ok (.iload_n 3, 1) := by decide +kernel
theorem dX1_worth_34 : decode cX1_worth 34 = .ok (.ifCond .eq 13, 3) := by decide +kernel
theorem dX1_worth_37 : decode cX1_worth 37 = .ok (.iload 9, 2) := by decide +kernel
theorem dX1_worth_39 : decode cX1_worth 39 = .ok (.iload_n 2, 1) := by decide +kernel
theorem dX1_worth_40 : decode cX1_worth 40 = .ok (.if_icmp .ne 7, 3) := by decide +kernel
theorem dX1_worth_43 : decode cX1_worth 43 = .ok (.iconst 1, 1) := by decide +kernel
theorem dX1_worth_44 : decode cX1_worth 44 = .ok (.goto 4, 3) := by decide +kernel
theorem dX1_worth_47 : decode cX1_worth 47 = .ok (.iconst 0, 1) := by decide +kernel
theorem dX1_worth_48 : decode cX1_worth 48 = .ok (.istore_n 3, 1) := by decide +kernel
theorem dX1_worth_49 : decode cX1_worth 49 = .ok (.iload_n 3, 1) := by decide +kernel
theorem dX1_worth_50 : decode cX1_worth 50 = .ok (.ifCond .ne 11, 3) := by decide +kernel
theorem dX1_worth_53 : decode cX1_worth 53 = .ok (.lload 4, 2) := by decide +kernel
theorem dX1_worth_55 : decode cX1_worth 55 = .ok (.ldc2_w 188, 3) := by decide +kernel
theorem dX1_worth_58 : decode cX1_worth 58 = .ok (.ldiv, 1) := by decide +kernel
theorem dX1_worth_59 : decode cX1_worth 59 = .ok (.lstore 4, 2) := by decide +kernel
theorem dX1_worth_61 : decode cX1_worth 61 = .ok (.lload 6, 2) := by decide +kernel
theorem dX1_worth_63 : decode cX1_worth 63 = .ok (.iload 9, 2) := by decide +kernel
theorem dX1_worth_65 : decode cX1_worth 65 = .ok (.ifCond .eq 8, 3) := by decide +kernel
theorem dX1_worth_68 : decode cX1_worth 68 = .ok (.lload 4, 2) := by decide +kernel
theorem dX1_worth_70 : decode cX1_worth 70 = .ok (.goto 6, 3) := by decide +kernel
theorem dX1_worth_73 : decode cX1_worth 73 = .ok (.lload 4, 2) := by decide +kernel
theorem dX1_worth_75 : decode cX1_worth 75 = .ok (.lneg, 1) := by decide +kernel
theorem dX1_worth_76 : decode cX1_worth 76 = .ok (.ladd, 1) := by decide +kernel
theorem dX1_worth_77 : decode cX1_worth 77 = .ok (.lstore 6, 2) := by decide +kernel
theorem dX1_worth_79 : decode cX1_worth 79 = .ok (.iinc 8 1, 3) := by decide +kernel
theorem dX1_worth_82 : decode cX1_worth 82 = .ok (.goto (-63), 3) := by decide +kernel
theorem dX1_worth_85 : decode cX1_worth 85 = .ok (.lload 6, 2) := by decide +kernel
theorem dX1_worth_87 : decode cX1_worth 87 = .ok (.lreturn, 1) := by decide +kernel
theorem dX1_holdValue_0 : decode cX1_holdValue 0 = .ok (.aload_n 0, 1) := by decide +kernel
theorem dX1_holdValue_1 : decode cX1_holdValue 1 = .ok (.iload_n 1, 1) := by decide +kernel
theorem dX1_holdValue_2 : decode cX1_holdValue 2 = .ok (.lload_n 2, 1) := by decide +kernel
theorem dX1_holdValue_3 : decode cX1_holdValue 3 = .ok (.lload_n 2, 1) := by decide +kernel
theorem dX1_holdValue_4 : decode cX1_holdValue 4 = .ok (.invokevirtual 94, 3) := by decide +kernel
theorem dX1_holdValue_7 : decode cX1_holdValue 7 = .ok (.ireturn, 1) := by decide +kernel
theorem dX1_holdProduct_0 : decode cX1_holdProduct 0 = .ok (.lload_n 2, 1) := by decide +kernel
theorem dX1_holdProduct_1 : decode cX1_holdProduct 1 = .ok (.ldc2_w 186, 3) := by decide +kernel
theorem dX1_holdProduct_4 : decode cX1_holdProduct 4 = .ok (.lrem, 1) := by decide +kernel
theorem dX1_holdProduct_5 : decode cX1_holdProduct 5 = .ok (.lconst 0, 1) := by decide +kernel
theorem dX1_holdProduct_6 : decode cX1_holdProduct 6 = .ok (.lcmp, 1) := by decide +kernel
theorem dX1_holdProduct_7 : decode cX1_holdProduct 7 = .ok (.ifCond .eq 6, 3) := by decide +kernel
theorem dX1_holdProduct_10 : decode cX1_holdProduct 10 = .ok (.bipush (-3), 2) := by decide +kernel
theorem dX1_holdProduct_12 : decode cX1_holdProduct 12 = .ok (.ireturn, 1) := by decide +kernel
theorem dX1_holdProduct_13 : decode cX1_holdProduct 13 = .ok (.aload_n 0, 1) := by decide +kernel
theorem dX1_holdProduct_14 : decode cX1_holdProduct 14 = .ok (.iload_n 1, 1) := by decide +kernel
theorem dX1_holdProduct_15 : decode cX1_holdProduct 15 = .ok (.lload_n 2, 1) := by decide +kernel
theorem dX1_holdProduct_16 : decode cX1_holdProduct 16 = .ok (.ldc2_w 186, 3) := by decide +kernel
theorem dX1_holdProduct_19 : decode cX1_holdProduct 19 = .ok (.ldiv, 1) := by decide +kernel
theorem dX1_holdProduct_20 : decode cX1_holdProduct 20 = .ok (.invokevirtual 55, 3) := by decide +kernel
theorem dX1_holdProduct_23 : decode cX1_holdProduct 23 = .ok (.ireturn, 1) := by decide +kernel
theorem dX1_holdSimplest_0 : decode cX1_holdSimplest 0 = .ok (.iconst 0, 1) := by decide +kernel
theorem dX1_holdSimplest_1 : decode cX1_holdSimplest 1 = .ok (.istore 6, 2) := by decide +kernel
theorem dX1_holdSimplest_3 : decode cX1_holdSimplest 3 = .ok (.iconst 0, 1) := by decide +kernel
theorem dX1_holdSimplest_4 : decode cX1_holdSimplest 4 = .ok (.istore 7, 2) := by decide +kernel
theorem dX1_holdSimplest_6 : decode cX1_holdSimplest 6 = .ok (.iload 7, 2) := by decide +kernel
theorem dX1_holdSimplest_8 : decode cX1_holdSimplest 8 = .ok (.bipush 24, 2) := by decide +kernel
theorem dX1_holdSimplest_10 : decode cX1_holdSimplest 10 = .ok (.if_icmp .gt 55, 3) := by decide +kernel
theorem dX1_holdSimplest_13 : decode cX1_holdSimplest 13 = .ok (.iload 7, 2) := by decide +kernel
theorem dX1_holdSimplest_15 : decode cX1_holdSimplest 15 = .ok (.iload 6, 2) := by decide +kernel
theorem dX1_holdSimplest_17 : decode cX1_holdSimplest 17 = .ok (.invokestatic 182, 3) := by decide +kernel
theorem dX1_holdSimplest_20 : decode cX1_holdSimplest 20 = .ok (.lstore 8, 2) := by decide +kernel
theorem dX1_holdSimplest_22 : decode cX1_holdSimplest 22 = .ok (.lload 8, 2) := by decide +kernel
theorem dX1_holdSimplest_24 : decode cX1_holdSimplest 24 = .ok (.lload_n 2, 1) := by decide +kernel
theorem dX1_holdSimplest_25 : decode cX1_holdSimplest 25 = .ok (.lcmp, 1) := by decide +kernel
theorem dX1_holdSimplest_26 : decode cX1_holdSimplest 26 = .ok (.ifCond .ge 15, 3) := by decide +kernel
theorem dX1_holdSimplest_29 : decode cX1_holdSimplest 29 = .ok (.iload 6, 2) := by decide +kernel
theorem dX1_holdSimplest_31 : decode cX1_holdSimplest 31 = .ok (.iconst 1, 1) := by decide +kernel
theorem dX1_holdSimplest_32 : decode cX1_holdSimplest 32 = .ok (.iload 7, 2) := by decide +kernel
theorem dX1_holdSimplest_34 : decode cX1_holdSimplest 34 = .ok (.ishl, 1) := by decide +kernel
theorem dX1_holdSimplest_35 : decode cX1_holdSimplest 35 = .ok (.ior, 1) := by decide +kernel
theorem dX1_holdSimplest_36 : decode cX1_holdSimplest 36 = .ok (.istore 6, 2) := by decide +kernel
theorem dX1_holdSimplest_38 : decode cX1_holdSimplest 38 = .ok (.goto 21, 3) := by decide +kernel
theorem dX1_holdSimplest_41 : decode cX1_holdSimplest 41 = .ok (.lload 8, 2) := by decide +kernel
theorem dX1_holdSimplest_43 : decode cX1_holdSimplest 43 = .ok (.lload 4, 2) := by decide +kernel
theorem dX1_holdSimplest_45 : decode cX1_holdSimplest 45 = .ok (.lcmp, 1) := by decide +kernel
theorem dX1_holdSimplest_46 : decode cX1_holdSimplest 46 = .ok (.ifCond .gt 13, 3) := by decide +kernel
theorem dX1_holdSimplest_49 : decode cX1_holdSimplest 49 = .ok (.aload_n 0, 1) := by decide +kernel
theorem dX1_holdSimplest_50 : decode cX1_holdSimplest 50 = .ok (.iload_n 1, 1) := by decide +kernel
theorem dX1_holdSimplest_51 : decode cX1_holdSimplest 51 = .ok (.iload 7, 2) := by decide +kernel
theorem dX1_holdSimplest_53 : decode cX1_holdSimplest 53 = .ok (.iload 6, 2) := by decide +kernel
theorem dX1_holdSimplest_55 : decode cX1_holdSimplest 55 = .ok (.invokevirtual 47, 3) := by decide +kernel
theorem dX1_holdSimplest_58 : decode cX1_holdSimplest 58 = .ok (.ireturn, 1) := by decide +kernel
theorem dX1_holdSimplest_59 : decode cX1_holdSimplest 59 = .ok (.iinc 7 1, 3) := by decide +kernel
theorem dX1_holdSimplest_62 : decode cX1_holdSimplest 62 = .ok (.goto (-56), 3) := by decide +kernel
theorem dX1_holdSimplest_65 : decode cX1_holdSimplest 65 = .ok (.bipush (-3), 2) := by decide +kernel
theorem dX1_holdSimplest_67 : decode cX1_holdSimplest 67 = .ok (.ireturn, 1) := by decide +kernel
theorem dX1_findPair_0 : decode cX1_findPair 0 = .ok (.iconst 0, 1) := by decide +kernel
theorem dX1_findPair_1 : decode cX1_findPair 1 = .ok (.istore_n 3, 1) := by decide +kernel
theorem dX1_findPair_2 : decode cX1_findPair 2 = .ok (.iload_n 3, 1) := by decide +kernel
theorem dX1_findPair_3 : decode cX1_findPair 3 = .ok (.bipush 12, 2) := by decide +kernel
theorem dX1_findPair_5 : decode cX1_findPair 5 = .ok (.if_icmp .ge 72, 3) := by decide +kernel
theorem dX1_findPair_8 : decode cX1_findPair 8 = .ok (.iconst 0, 1) := by decide +kernel
theorem dX1_findPair_9 : decode cX1_findPair 9 = .ok (.istore 4, 2) := by decide +kernel
theorem dX1_findPair_11 : decode cX1_findPair 11 = .ok (.iload 4, 2) := by decide +kernel
theorem dX1_findPair_13 : decode cX1_findPair 13 = .ok (.bipush 12, 2) := by decide +kernel
theorem dX1_findPair_15 : decode cX1_findPair 15 = .ok (.if_icmp .ge 56, 3) := by decide +kernel
theorem dX1_findPair_18 : decode cX1_findPair 18 = .ok (.iload_n 1, 1) := by decide +kernel
theorem dX1_findPair_19 : decode cX1_findPair 19 = .ok (.iload_n 3, 1) := by decide +kernel
theorem dX1_findPair_20 : decode cX1_findPair 20 = .ok (.invokestatic 108, 3) := by decide +kernel
theorem dX1_findPair_23 : decode cX1_findPair 23 = .ok (.ifCond .eq 42, 3) := by decide +kernel
theorem dX1_findPair_26 : decode cX1_findPair 26 = .ok (.iload_n 2, 1) := by decide +kernel
theorem dX1_findPair_27 : decode cX1_findPair 27 = .ok (.iload 4, 2) := by decide +kernel
theorem dX1_findPair_29 : decode cX1_findPair 29 = .ok (.invokestatic 108, 3) := by decide +kernel
theorem dX1_findPair_32 : decode cX1_findPair 32 = .ok (.ifCond .eq 33, 3) := by decide +kernel
theorem dX1_findPair_35 : decode cX1_findPair 35 = .ok (.aload_n 0, 1) := by decide +kernel
theorem dX1_findPair_36 : decode cX1_findPair 36 = .ok (.getfield 18, 3) := by decide +kernel
theorem dX1_findPair_39 : decode cX1_findPair 39 = .ok (.iload_n 3, 1) := by decide +kernel
theorem dX1_findPair_40 : decode cX1_findPair 40 = .ok (.laload, 1) := by decide +kernel
theorem dX1_findPair_41 : decode cX1_findPair 41 = .ok (.aload_n 0, 1) := by decide +kernel
theorem dX1_findPair_42 : decode cX1_findPair 42 = .ok (.getfield 18, 3) := by decide +kernel
theorem dX1_findPair_45 : decode cX1_findPair 45 = .ok (.iload 4, 2) := by decide +kernel
theorem dX1_findPair_47 : decode cX1_findPair 47 = .ok (.laload, 1) := by decide +kernel
theorem dX1_findPair_48 : decode cX1_findPair 48 = .ok (.lcmp, 1) := by decide +kernel
theorem dX1_findPair_49 : decode cX1_findPair 49 = .ok (.ifCond .lt 16, 3) := by decide +kernel
theorem dX1_findPair_52 : decode cX1_findPair 52 = .ok (.aload_n 0, 1) := by decide +kernel
theorem dX1_findPair_53 : decode cX1_findPair 53 = .ok (.iload_n 3, 1) := by decide +kernel
theorem dX1_findPair_54 : decode cX1_findPair 54 = .ok (.putfield 22, 3) := by decide +kernel
theorem dX1_findPair_57 : decode cX1_findPair 57 = .ok (.aload_n 0, 1) := by decide +kernel
theorem dX1_findPair_58 : decode cX1_findPair 58 = .ok (.iload 4, 2) := by decide +kernel
theorem dX1_findPair_60 : decode cX1_findPair 60 = .ok (.putfield 26, 3) := by decide +kernel
theorem dX1_findPair_63 : decode cX1_findPair 63 = .ok (.iconst 1, 1) := by decide +kernel
theorem dX1_findPair_64 : decode cX1_findPair 64 = .ok (.ireturn, 1) := by decide +kernel
theorem dX1_findPair_65 : decode cX1_findPair 65 = .ok (.iinc 4 1, 3) := by decide +kernel
theorem dX1_findPair_68 : decode cX1_findPair 68 = .ok (.goto (-57), 3) := by decide +kernel
theorem dX1_findPair_71 : decode cX1_findPair 71 = .ok (.iinc 3 1, 3) := by decide +kernel
theorem dX1_findPair_74 : decode cX1_findPair 74 = .ok (.goto (-72), 3) := by decide +kernel
theorem dX1_findPair_77 : decode cX1_findPair 77 = .ok (.iconst 0, 1) := by decide +kernel
theorem dX1_findPair_78 : decode cX1_findPair 78 = .ok (.ireturn, 1) := by decide +kernel
theorem dX1_leastAboveAll_0 : decode cX1_leastAboveAll 0 = .ok (.ldc2_w 161, 3) := by decide +kernel
theorem dX1_leastAboveAll_3 : decode cX1_leastAboveAll 3 = .ok (.lstore_n 2, 1) := by decide +kernel
theorem dX1_leastAboveAll_4 : decode cX1_leastAboveAll 4 = .ok (.iconst 0, 1) := by decide +kernel
theorem dX1_leastAboveAll_5 : decode cX1_leastAboveAll 5 = .ok (.istore 4, 2) := by decide +kernel
theorem dX1_leastAboveAll_7 : decode cX1_leastAboveAll 7 = .ok (.iload 4, 2) := by decide +kernel
theorem dX1_leastAboveAll_9 : decode cX1_leastAboveAll 9 = .ok (.bipush 12, 2) := by decide +kernel
theorem dX1_leastAboveAll_11 : decode cX1_leastAboveAll 11 = .ok (.if_icmp .ge 32, 3) := by decide +kernel
theorem dX1_leastAboveAll_14 : decode cX1_leastAboveAll 14 = .ok (.iload_n 1, 1) := by decide +kernel
theorem dX1_leastAboveAll_15 : decode cX1_leastAboveAll 15 = .ok (.iload 4, 2) := by decide +kernel
theorem dX1_leastAboveAll_17 : decode cX1_leastAboveAll 17 = .ok (.invokestatic 108, 3) := by decide +kernel
theorem dX1_leastAboveAll_20 : decode cX1_leastAboveAll 20 = .ok (.ifCond .eq 17, 3) := by decide +kernel
theorem dX1_leastAboveAll_23 : decode cX1_leastAboveAll 23 = .ok (.lload_n 2, 1) := by decide +kernel
theorem dX1_leastAboveAll_24 : decode cX1_leastAboveAll 24 = .ok (.aload_n 0, 1) := by decide +kernel
theorem dX1_leastAboveAll_25 : decode cX1_leastAboveAll 25 = .ok (.getfield 18, 3) := by decide +kernel
theorem dX1_leastAboveAll_28 : decode cX1_leastAboveAll 28 = .ok (.iload 4, 2) := by decide +kernel
theorem dX1_leastAboveAll_30 : decode cX1_leastAboveAll 30 = .ok (.laload, 1) := by decide +kernel
theorem dX1_leastAboveAll_31 : decode cX1_leastAboveAll 31 = .ok (.lconst 1, 1) := by decide +kernel
theorem dX1_leastAboveAll_32 : decode cX1_leastAboveAll 32 = .ok (.ladd, 1) := by decide +kernel
theorem dX1_leastAboveAll_33 : decode cX1_leastAboveAll 33 = .ok (.invokestatic 190, 3) := by decide +kernel
theorem dX1_leastAboveAll_36 : decode cX1_leastAboveAll 36 = .ok (.lstore_n 2, 1) := by decide +kernel
theorem dX1_leastAboveAll_37 : decode cX1_leastAboveAll 37 = .ok (.iinc 4 1, 3) := by decide +kernel
theorem dX1_leastAboveAll_40 : decode cX1_leastAboveAll 40 = .ok (.goto (-33), 3) := by decide +kernel
theorem dX1_leastAboveAll_43 : decode cX1_leastAboveAll 43 = .ok (.lload_n 2, 1) := by decide +kernel
theorem dX1_leastAboveAll_44 : decode cX1_leastAboveAll 44 = .ok (.lreturn, 1) := by decide +kernel
theorem dX1_greatestBelowAll_0 : decode cX1_greatestBelowAll 0 = .ok (.ldc2_w 193, 3) := by decide +kernel
theorem dX1_greatestBelowAll_3 : decode cX1_greatestBelowAll 3 = .ok (.lstore_n 2, 1) := by decide +kernel
theorem dX1_greatestBelowAll_4 : decode cX1_greatestBelowAll 4 = .ok (.iconst 0, 1) := by decide +kernel
theorem dX1_greatestBelowAll_5 : decode cX1_greatestBelowAll 5 = .ok (.istore 4, 2) := by decide +kernel
theorem dX1_greatestBelowAll_7 : decode cX1_greatestBelowAll 7 = .ok (.iload 4, 2) := by decide +kernel
theorem dX1_greatestBelowAll_9 : decode cX1_greatestBelowAll 9 = .ok (.bipush 12, 2) := by decide +kernel
theorem dX1_greatestBelowAll_11 : decode cX1_greatestBelowAll 11 = .ok (.if_icmp .ge 32, 3) := by decide +kernel
theorem dX1_greatestBelowAll_14 : decode cX1_greatestBelowAll 14 = .ok (.iload_n 1, 1) := by decide +kernel
theorem dX1_greatestBelowAll_15 : decode cX1_greatestBelowAll 15 = .ok (.iload 4, 2) := by decide +kernel
theorem dX1_greatestBelowAll_17 : decode cX1_greatestBelowAll 17 = .ok (.invokestatic 108, 3) := by decide +kernel
theorem dX1_greatestBelowAll_20 : decode cX1_greatestBelowAll 20 = .ok (.ifCond .eq 17, 3) := by decide +kernel
theorem dX1_greatestBelowAll_23 : decode cX1_greatestBelowAll 23 = .ok (.lload_n 2, 1) := by decide +kernel
theorem dX1_greatestBelowAll_24 : decode cX1_greatestBelowAll 24 = .ok (.aload_n 0, 1) := by decide +kernel
theorem dX1_greatestBelowAll_25 : decode cX1_greatestBelowAll 25 = .ok (.getfield 18, 3) := by decide +kernel
theorem dX1_greatestBelowAll_28 : decode cX1_greatestBelowAll 28 = .ok (.iload 4, 2) := by decide +kernel
theorem dX1_greatestBelowAll_30 : decode cX1_greatestBelowAll 30 = .ok (.laload, 1) := by decide +kernel
theorem dX1_greatestBelowAll_31 : decode cX1_greatestBelowAll 31 = .ok (.lconst 1, 1) := by decide +kernel
theorem dX1_greatestBelowAll_32 : decode cX1_greatestBelowAll 32 = .ok (.lsub, 1) := by decide +kernel
theorem dX1_greatestBelowAll_33 : decode cX1_greatestBelowAll 33 = .ok (.invokestatic 195, 3) := by decide +kernel
theorem dX1_greatestBelowAll_36 : decode cX1_greatestBelowAll 36 = .ok (.lstore_n 2, 1) := by decide +kernel
theorem dX1_greatestBelowAll_37 : decode cX1_greatestBelowAll 37 = .ok (.iinc 4 1, 3) := by decide +kernel
theorem dX1_greatestBelowAll_40 : decode cX1_greatestBelowAll 40 = .ok (.goto (-33), 3) := by decide +kernel
theorem dX1_greatestBelowAll_43 : decode cX1_greatestBelowAll 43 = .ok (.lload_n 2, 1) := by decide +kernel
theorem dX1_greatestBelowAll_44 : decode cX1_greatestBelowAll 44 = .ok (.lreturn, 1) := by decide +kernel
theorem dX1_countLess_0 : decode cX1_countLess 0 = .ok (.iconst 0, 1) := by decide +kernel
theorem dX1_countLess_1 : decode cX1_countLess 1 = .ok (.istore_n 3, 1) := by decide +kernel
theorem dX1_countLess_2 : decode cX1_countLess 2 = .ok (.iconst 0, 1) := by decide +kernel
theorem dX1_countLess_3 : decode cX1_countLess 3 = .ok (.istore 4, 2) := by decide +kernel
theorem dX1_countLess_5 : decode cX1_countLess 5 = .ok (.iload 4, 2) := by decide +kernel
theorem dX1_countLess_7 : decode cX1_countLess 7 = .ok (.aload_n 0, 1) := by decide +kernel
theorem dX1_countLess_8 : decode cX1_countLess 8 = .ok (.getfield 11, 3) := by decide +kernel
theorem dX1_countLess_11 : decode cX1_countLess 11 = .ok (.iload_n 1, 1) := by decide +kernel
theorem dX1_countLess_12 : decode cX1_countLess 12 = .ok (.iaload, 1) := by decide +kernel
theorem dX1_countLess_13 : decode cX1_countLess 13 = .ok (.if_icmp .ge 38, 3) := by decide +kernel
theorem dX1_countLess_16 : decode cX1_countLess 16 = .ok (.iload 4, 2) := by decide +kernel
theorem dX1_countLess_18 : decode cX1_countLess 18 = .ok (.iload_n 2, 1) := by decide +kernel
theorem dX1_countLess_19 : decode cX1_countLess 19 = .ok (.if_icmp .gt 32, 3) := by decide +kernel
theorem dX1_countLess_22 : decode cX1_countLess 22 = .ok (.aload_n 0, 1) := by decide +kernel
theorem dX1_countLess_23 : decode cX1_countLess 23 = .ok (.getfield 15, 3) := by decide +kernel
theorem dX1_countLess_26 : decode cX1_countLess 26 = .ok (.iload_n 1, 1) := by decide +kernel
theorem dX1_countLess_27 : decode cX1_countLess 27 = .ok (.iaload, 1) := by decide +kernel
theorem dX1_countLess_28 : decode cX1_countLess 28 = .ok (.iload 4, 2) := by decide +kernel
theorem dX1_countLess_30 : decode cX1_countLess 30 = .ok (.invokestatic 59, 3) := by decide +kernel
theorem dX1_countLess_33 : decode cX1_countLess 33 = .ok (.ifCond .eq 12, 3) := by decide +kernel
theorem dX1_countLess_36 : decode cX1_countLess 36 = .ok (.iload_n 3, 1) := by decide +kernel
theorem dX1_countLess_37 : decode cX1_countLess 37 = .ok (.iconst 1, 1) := by decide +kernel
theorem dX1_countLess_38 : decode cX1_countLess 38 = .ok (.iload_n 2, 1) := by decide +kernel
theorem dX1_countLess_39 : decode cX1_countLess 39 = .ok (.iload 4, 2) := by decide +kernel
theorem dX1_countLess_41 : decode cX1_countLess 41 = .ok (.isub, 1) := by decide +kernel
theorem dX1_countLess_42 : decode cX1_countLess 42 = .ok (.ishl, 1) := by decide +kernel
theorem dX1_countLess_43 : decode cX1_countLess 43 = .ok (.iadd, 1) := by decide +kernel
theorem dX1_countLess_44 : decode cX1_countLess 44 = .ok (.istore_n 3, 1) := by decide +kernel
theorem dX1_countLess_45 : decode cX1_countLess 45 = .ok (.iinc 4 1, 3) := by decide +kernel
theorem dX1_countLess_48 : decode cX1_countLess 48 = .ok (.goto (-43), 3) := by decide +kernel
theorem dX1_countLess_51 : decode cX1_countLess 51 = .ok (.aload_n 0, 1) := by decide +kernel
theorem dX1_countLess_52 : decode cX1_countLess 52 = .ok (.getfield 11, 3) := by decide +kernel
theorem dX1_countLess_55 : decode cX1_countLess 55 = .ok (.iload_n 1, 1) := by decide +kernel
theorem dX1_countLess_56 : decode cX1_countLess 56 = .ok (.iaload, 1) := by decide +kernel
theorem dX1_countLess_57 : decode cX1_countLess 57 = .ok (.iload_n 2, 1) := by decide +kernel
theorem dX1_countLess_58 : decode cX1_countLess 58 = .ok (.if_icmp .gt 17, 3) := by decide +kernel
theorem dX1_countLess_61 : decode cX1_countLess 61 = .ok (.iload_n 3, 1) := by decide +kernel
theorem dX1_countLess_62 : decode cX1_countLess 62 = .ok (.iload_n 2, 1) := by decide +kernel
theorem dX1_countLess_63 : decode cX1_countLess 63 = .ok (.aload_n 0, 1) := by decide +kernel
theorem dX1_countLess_64 : decode cX1_countLess 64 = .ok (.getfield 11, 3) := by decide +kernel
theorem dX1_countLess_67 : decode cX1_countLess 67 = .ok (.iload_n 1, 1) := by decide +kernel
theorem dX1_countLess_68 : decode cX1_countLess 68 = .ok (.iaload, 1) := by decide +kernel
theorem dX1_countLess_69 : decode cX1_countLess 69 = .ok (.isub, 1) := by decide +kernel
theorem dX1_countLess_70 : decode cX1_countLess 70 = .ok (.invokestatic 77, 3) := by decide +kernel
theorem dX1_countLess_73 : decode cX1_countLess 73 = .ok (.iadd, 1) := by decide +kernel
theorem dX1_countLess_74 : decode cX1_countLess 74 = .ok (.istore_n 3, 1) := by decide +kernel
theorem dX1_countLess_75 : decode cX1_countLess 75 = .ok (.iload_n 3, 1) := by decide +kernel
theorem dX1_countLess_76 : decode cX1_countLess 76 = .ok (.ireturn, 1) := by decide +kernel
theorem dX1_divideOnce_0 : decode cX1_divideOnce 0 = .ok (.iload_n 3, 1) := by decide +kernel
theorem dX1_divideOnce_1 : decode cX1_divideOnce 1 = .ok (.iload_n 2, 1) := by decide +kernel
theorem dX1_divideOnce_2 : decode cX1_divideOnce 2 = .ok (.isub, 1) := by decide +kernel
theorem dX1_divideOnce_3 : decode cX1_divideOnce 3 = .ok (.istore 4, 2) := by decide +kernel
theorem dX1_divideOnce_5 : decode cX1_divideOnce 5 = .ok (.aload_n 0, 1) := by decide +kernel
theorem dX1_divideOnce_6 : decode cX1_divideOnce 6 = .ok (.getfield 40, 3) := by decide +kernel
theorem dX1_divideOnce_9 : decode cX1_divideOnce 9 = .ok (.getfield 122, 3) := by decide +kernel
theorem dX1_divideOnce_12 : decode cX1_divideOnce 12 = .ok (.iload_n 3, 1) := by decide +kernel
theorem dX1_divideOnce_13 : decode cX1_divideOnce 13 = .ok (.laload, 1) := by decide +kernel
theorem dX1_divideOnce_14 : decode cX1_divideOnce 14 = .ok (.aload_n 1, 1) := by decide +kernel
theorem dX1_divideOnce_15 : decode cX1_divideOnce 15 = .ok (.getfield 122, 3) := by decide +kernel
theorem dX1_divideOnce_18 : decode cX1_divideOnce 18 = .ok (.iload_n 2, 1) := by decide +kernel
theorem dX1_divideOnce_19 : decode cX1_divideOnce 19 = .ok (.laload, 1) := by decide +kernel
theorem dX1_divideOnce_20 : decode cX1_divideOnce 20 = .ok (.invokestatic 198, 3) := by decide +kernel
theorem dX1_divideOnce_23 : decode cX1_divideOnce 23 = .ok (.lstore 5, 2) := by decide +kernel
theorem dX1_divideOnce_25 : decode cX1_divideOnce 25 = .ok (.aload_n 0, 1) := by decide +kernel
theorem dX1_divideOnce_26 : decode cX1_divideOnce 26 = .ok (.getfield 36, 3) := by decide +kernel
theorem dX1_divideOnce_29 : decode cX1_divideOnce 29 = .ok (.iload 4, 2) := by decide +kernel
theorem dX1_divideOnce_31 : decode cX1_divideOnce 31 = .ok (.lload 5, 2) := by decide +kernel
theorem dX1_divideOnce_33 : decode cX1_divideOnce 33 = .ok (.invokevirtual 201, 3) := by decide +kernel
theorem dX1_divideOnce_36 : decode cX1_divideOnce 36 = .ok (.ifCond .eq 23, 3) := by decide +kernel
theorem dX1_divideOnce_39 : decode cX1_divideOnce 39 = .ok (.aload_n 0, 1) := by decide +kernel
theorem dX1_divideOnce_40 : decode cX1_divideOnce 40 = .ok (.getfield 40, 3) := by decide +kernel
theorem dX1_divideOnce_43 : decode cX1_divideOnce 43 = .ok (.iload 4, 2) := by decide +kernel
theorem dX1_divideOnce_45 : decode cX1_divideOnce 45 = .ok (.lload 5, 2) := by decide +kernel
theorem dX1_divideOnce_47 : decode cX1_divideOnce 47 = .ok (.lneg, 1) := by decide +kernel
theorem dX1_divideOnce_48 : decode cX1_divideOnce 48 = .ok (.aload_n 1, 1) := by decide +kernel
theorem dX1_divideOnce_49 : decode cX1_divideOnce 49 = .ok (.invokevirtual 205, 3) := by decide +kernel
theorem dX1_divideOnce_52 : decode cX1_divideOnce 52 = .ok (.ifCond .eq 7, 3) := by decide +kernel
theorem dX1_divideOnce_55 : decode cX1_divideOnce 55 = .ok (.iconst 1, 1) := by decide +kernel
theorem dX1_divideOnce_56 : decode cX1_divideOnce 56 = .ok (.goto 4, 3) := by decide +kernel
theorem dX1_divideOnce_59 : decode cX1_divideOnce 59 = .ok (.iconst 0, 1) := by decide +kernel
theorem dX1_divideOnce_60 : decode cX1_divideOnce 60 = .ok (.ireturn, 1) := by decide +kernel
theorem dX2_init_0 : decode cX2_init 0 = .ok (.aload_n 0, 1) := by decide +kernel
theorem dX2_init_1 : decode cX2_init 1 = .ok (.invokespecial 1, 3) := by decide +kernel
theorem dX2_init_4 : decode cX2_init 4 = .ok (.aload_n 0, 1) := by decide +kernel
theorem dX2_init_5 : decode cX2_init 5 = .ok (.bipush 12, 2) := by decide +kernel
theorem dX2_init_7 : decode cX2_init 7 = .ok (.newarray .int, 2) := by decide +kernel
theorem dX2_init_9 : decode cX2_init 9 = .ok (.putfield 7, 3) := by decide +kernel
theorem dX2_init_12 : decode cX2_init 12 = .ok (.aload_n 0, 1) := by decide +kernel
theorem dX2_init_13 : decode cX2_init 13 = .ok (.bipush 12, 2) := by decide +kernel
theorem dX2_init_15 : decode cX2_init 15 = .ok (.newarray .int, 2) := by decide +kernel
theorem dX2_init_17 : decode cX2_init 17 = .ok (.putfield 13, 3) := by decide +kernel
theorem dX2_init_20 : decode cX2_init 20 = .ok (.aload_n 0, 1) := by decide +kernel
theorem dX2_init_21 : decode cX2_init 21 = .ok (.bipush (-4), 2) := by decide +kernel
theorem dX2_init_23 : decode cX2_init 23 = .ok (.putfield 16, 3) := by decide +kernel
theorem dX2_init_26 : decode cX2_init 26 = .ok (.aload_n 0, 1) := by decide +kernel
theorem dX2_init_27 : decode cX2_init 27 = .ok (.bipush (-4), 2) := by decide +kernel
theorem dX2_init_29 : decode cX2_init 29 = .ok (.putfield 20, 3) := by decide +kernel
theorem dX2_init_32 : decode cX2_init 32 = .ok (.aload_n 0, 1) := by decide +kernel
theorem dX2_init_33 : decode cX2_init 33 = .ok (.sipush 130, 3) := by decide +kernel
theorem dX2_init_36 : decode cX2_init 36 = .ok (.newarray .long, 2) := by decide +kernel
theorem dX2_init_38 : decode cX2_init 38 = .ok (.putfield 23, 3) := by decide +kernel
theorem dX2_init_41 : decode cX2_init 41 = .ok (.aload_n 0, 1) := by decide +kernel
theorem dX2_init_42 : decode cX2_init 42 = .ok (.sipush 130, 3) := by decide +kernel
theorem dX2_init_45 : decode cX2_init 45 = .ok (.newarray .int, 2) := by decide +kernel
theorem dX2_init_47 : decode cX2_init 47 = .ok (.putfield 27, 3) := by decide +kernel
theorem dX2_init_50 : decode cX2_init 50 = .ok (.return_, 1) := by decide +kernel
theorem dX2_in_0 : decode cX2_in 0 = .ok (.lload_n 0, 1) := by decide +kernel
theorem dX2_in_1 : decode cX2_in 1 = .ok (.lload_n 2, 1) := by decide +kernel
theorem dX2_in_2 : decode cX2_in 2 = .ok (.lcmp, 1) := by decide +kernel
theorem dX2_in_3 : decode cX2_in 3 = .ok (.ifCond .lt 14, 3) := by decide +kernel
theorem dX2_in_6 : decode cX2_in 6 = .ok (.lload_n 0, 1) := by decide +kernel
theorem dX2_in_7 : decode cX2_in 7 = .ok (.lload 4, 2) := by decide +kernel
theorem dX2_in_9 : decode cX2_in 9 = .ok (.lcmp, 1) := by decide +kernel
theorem dX2_in_10 : decode cX2_in 10 = .ok (.ifCond .gt 7, 3) := by decide +kernel
theorem dX2_in_13 : decode cX2_in 13 = .ok (.iconst 1, 1) := by decide +kernel
theorem dX2_in_14 : decode cX2_in 14 = .ok (.goto 4, 3) := by decide +kernel
theorem dX2_in_17 : decode cX2_in 17 = .ok (.iconst 0, 1) := by decide +kernel
theorem dX2_in_18 : decode cX2_in 18 = .ok (.ireturn, 1) := by decide +kernel
theorem dX2_isRegister_0 : decode cX2_isRegister 0 = .ok (.iload_n 0, 1) := by decide +kernel
theorem dX2_isRegister_1 : decode cX2_isRegister 1 = .ok (.i2l, 1) := by decide +kernel
theorem dX2_isRegister_2 : decode cX2_isRegister 2 = .ok (.lconst 0, 1) := by decide +kernel
theorem dX2_isRegister_3 : decode cX2_isRegister 3 = .ok (.ldc2_w 30, 3) := by decide +kernel
theorem dX2_isRegister_6 : decode cX2_isRegister 6 = .ok (.invokestatic 32, 3) := by decide +kernel
theorem dX2_isRegister_9 : decode cX2_isRegister 9 = .ok (.ireturn, 1) := by decide +kernel
theorem dX2_worth_0 : decode cX2_worth 0 = .ok (.lconst 0, 1) := by decide +kernel
theorem dX2_worth_1 : decode cX2_worth 1 = .ok (.lstore_n 2, 1) := by decide +kernel
theorem dX2_worth_2 : decode cX2_worth 2 = .ok (.ldc2_w 36, 3) := by decide +kernel
theorem dX2_worth_5 : decode cX2_worth 5 = .ok (.lstore 4, 2) := by decide +kernel
theorem dX2_worth_7 : decode cX2_worth 7 = .ok (.iconst 1, 1) := by decide +kernel
theorem dX2_worth_8 : decode cX2_worth 8 = .ok (.istore 6, 2) := by decide +kernel
theorem dX2_worth_10 : decode cX2_worth 10 = .ok (.iconst 0, 1) := by decide +kernel
theorem dX2_worth_11 : decode cX2_worth 11 = .ok (.istore 7, 2) := by decide +kernel
theorem dX2_worth_13 : decode cX2_worth 13 = .ok (.iload 7, 2) := by decide +kernel
theorem dX2_worth_15 : decode cX2_worth 15 = .ok (.iload_n 1, 1) := by decide +kernel
theorem dX2_worth_16 : decode cX2_worth 16 = .ok (.if_icmp .ge 90, 3) := by decide +kernel
theorem dX2_worth_19 : decode cX2_worth 19 = .ok (.iload_n 0, 1) := by decide +kernel
theorem dX2_worth_20 : decode cX2_worth 20 = .ok (.iload 7, 2) := by decide +kernel
theorem dX2_worth_22 : decode cX2_worth 22 = .ok (.ishr, 1) := by decide +kernel
theorem dX2_worth_23 : decode cX2_worth 23 = .ok (.iconst 1, 1) := by decide +kernel
theorem dX2_worth_24 : decode cX2_worth 24 = .ok (.iand, 1) := by decide +kernel
theorem dX2_worth_25 : decode cX2_worth 25 = .ok (.iconst 1, 1) := by decide +kernel
theorem dX2_worth_26 : decode cX2_worth 26 = .ok (.if_icmp .ne 7, 3) := by decide +kernel
theorem dX2_worth_29 : decode cX2_worth 29 = .ok (.iconst 1, 1) := by decide +kernel
theorem dX2_worth_30 : decode cX2_worth 30 = .ok (.goto 4, 3) := by decide +kernel
theorem dX2_worth_33 : decode cX2_worth 33 = .ok (.iconst 0, 1) := by decide +kernel
theorem dX2_worth_34 : decode cX2_worth 34 = .ok (.istore 8, 2) := by decide +kernel
theorem dX2_worth_36 : decode cX2_worth 36 = .ok (.iload 6, 2) := by decide +kernel
theorem dX2_worth_38 : decode cX2_worth 38 = .ok (.ifCond .eq 24, 3) := by decide +kernel
theorem dX2_worth_41 : decode cX2_worth 41 = .ok (.iload 8, 2) := by decide +kernel
theorem dX2_worth_43 : decode cX2_worth 43 = .ok (.iload_n 0, 1) := by decide +kernel
theorem dX2_worth_44 : decode cX2_worth 44 = .ok (.iconst 1, 1) := by decide +kernel
theorem dX2_worth_45 : decode cX2_worth 45 = .ok (.iand, 1) := by decide +kernel
theorem dX2_worth_46 : decode cX2_worth 46 = .ok (.iconst 1, 1) := by decide +kernel
theorem dX2_worth_47 : decode cX2_worth 47 = .ok (.if_icmp .ne 7, 3) := by decide +kernel
theorem dX2_worth_50 : decode cX2_worth 50 = .ok (.iconst 1, 1) := by decide +kernel
theorem dX2_worth_51 : decode cX2_worth 51 = .ok (.goto 4, 3) := by decide +kernel
theorem dX2_worth_54 : decode cX2_worth 54 = .ok (.iconst 0, 1) := by decide +kernel
theorem dX2_worth_55 : decode cX2_worth 55 = .ok (.if_icmp .ne 7, 3) := by decide +kernel
theorem dX2_worth_58 : decode cX2_worth 58 = .ok (.iconst 1, 1) := by decide +kernel
theorem dX2_worth_59 : decode cX2_worth 59 = .ok (.goto 4, 3) := by decide +kernel
theorem dX2_worth_62 : decode cX2_worth 62 = .ok (.iconst 0, 1) := by decide +kernel
theorem dX2_worth_63 : decode cX2_worth 63 = .ok (.istore 6, 2) := by decide +kernel
theorem dX2_worth_65 : decode cX2_worth 65 = .ok (.iload 6, 2) := by decide +kernel
theorem dX2_worth_67 : decode cX2_worth 67 = .ok (.ifCond .eq 9, 3) := by decide +kernel
theorem dX2_worth_70 : decode cX2_worth 70 = .ok (.ldc2_w 36, 3) := by decide +kernel
theorem dX2_worth_73 : decode cX2_worth 73 = .ok (.goto 9, 3) := by decide +kernel
theorem dX2_worth_76 : decode cX2_worth 76 = .ok (.lload 4, 2) := by decide +kernel
theorem dX2_worth_78 : decode cX2_worth 78 = .ok (.ldc2_w 38, 3) := by decide +kernel
theorem dX2_worth_81 : decode cX2_worth 81 = .ok (.ldiv, 1) := by decide +kernel
theorem dX2_worth_82 : decode cX2_worth 82 = .ok (.lstore 4, 2) := by decide +kernel
theorem dX2_worth_84 : decode cX2_worth 84 = .ok (.lload_n 2, 1) := by decide +kernel
theorem dX2_worth_85 : decode cX2_worth 85 = .ok (.iload 8, 2) := by decide +kernel
theorem dX2_worth_87 : decode cX2_worth 87 = .ok (.ifCond .eq 8, 3) := by decide +kernel
theorem dX2_worth_90 : decode cX2_worth 90 = .ok (.lload 4, 2) := by decide +kernel
theorem dX2_worth_92 : decode cX2_worth 92 = .ok (.goto 6, 3) := by decide +kernel
theorem dX2_worth_95 : decode cX2_worth 95 = .ok (.lload 4, 2) := by decide +kernel
theorem dX2_worth_97 : decode cX2_worth 97 = .ok (.lneg, 1) := by decide +kernel
theorem dX2_worth_98 : decode cX2_worth 98 = .ok (.ladd, 1) := by decide +kernel
theorem dX2_worth_99 : decode cX2_worth 99 = .ok (.lstore_n 2, 1) := by decide +kernel
theorem dX2_worth_100 : decode cX2_worth 100 = .ok (.iinc 7 1, 3) := by decide +kernel
theorem dX2_worth_103 : decode cX2_worth 103 = .ok (.goto (-90), 3) := by decide +kernel
theorem dX2_worth_106 : decode cX2_worth 106 = .ok (.lload_n 2, 1) := by decide +kernel
theorem dX2_worth_107 : decode cX2_worth 107 = .ok (.lreturn, 1) := by decide +kernel
theorem dX2_worthOf_0 : decode cX2_worthOf 0 = .ok (.aload_n 0, 1) := by decide +kernel
theorem dX2_worthOf_1 : decode cX2_worthOf 1 = .ok (.getfield 13, 3) := by decide +kernel
theorem dX2_worthOf_4 : decode cX2_worthOf 4 = .ok (.iload_n 1, 1) := by decide +kernel
theorem dX2_worthOf_5 : decode cX2_worthOf 5 = .ok (.iaload, 1) := by decide +kernel
theorem dX2_worthOf_6 : decode cX2_worthOf 6 = .ok (.aload_n 0, 1) := by decide +kernel
theorem dX2_worthOf_7 : decode cX2_worthOf 7 = .ok (.getfield 7, 3) := by decide +kernel
theorem dX2_worthOf_10 : decode cX2_worthOf 10 = .ok (.iload_n 1, 1) := by decide +kernel
theorem dX2_worthOf_11 : decode cX2_worthOf 11 = .ok (.iaload, 1) := by decide +kernel
theorem dX2_worthOf_12 : decode cX2_worthOf 12 = .ok (.invokestatic 40, 3) := by decide +kernel
theorem dX2_worthOf_15 : decode cX2_worthOf 15 = .ok (.lreturn, 1) := by decide +kernel
theorem dX2_finds_0 : decode cX2_finds 0 = .ok (.aload_n 0, 1) := by decide +kernel
theorem dX2_finds_1 : decode cX2_finds 1 = .ok (.iconst 0, 1) := by decide +kernel
theorem dX2_finds_2 : decode cX2_finds 2 = .ok (.putfield 44, 3) := by decide +kernel
theorem dX2_finds_5 : decode cX2_finds 5 = .ok (.aload_n 0, 1) := by decide +kernel
theorem dX2_finds_6 : decode cX2_finds 6 = .ok (.iconst 0, 1) := by decide +kernel
theorem dX2_finds_7 : decode cX2_finds 7 = .ok (.putfield 47, 3) := by decide +kernel
theorem dX2_finds_10 : decode cX2_finds 10 = .ok (.lconst 0, 1) := by decide +kernel
theorem dX2_finds_11 : decode cX2_finds 11 = .ok (.lstore 7, 2) := by decide +kernel
theorem dX2_finds_13 : decode cX2_finds 13 = .ok (.iload_n 1, 1) := by decide +kernel
theorem dX2_finds_14 : decode cX2_finds 14 = .ok (.ifCond .eq 10, 3) := by decide +kernel
theorem dX2_finds_17 : decode cX2_finds 17 = .ok (.lload 7, 2) := by decide +kernel
theorem dX2_finds_19 : decode cX2_finds 19 = .ok (.lload_n 2, 1) := by decide +kernel
theorem dX2_finds_20 : decode cX2_finds 20 = .ok (.lcmp, 1) := by decide +kernel
theorem dX2_finds_21 : decode cX2_finds 21 = .ok (.ifCond .le 16, 3) := by decide +kernel
theorem dX2_finds_24 : decode cX2_finds 24 = .ok (.iload 4, 2) := by decide +kernel
theorem dX2_finds_26 : decode cX2_finds 26 = .ok (.ifCond .eq 74, 3) := by decide +kernel
theorem dX2_finds_29 : decode cX2_finds 29 = .ok (.lload 7, 2) := by decide +kernel
theorem dX2_finds_31 : decode cX2_finds 31 = .ok (.lload 5, 2) := by decide +kernel
theorem dX2_finds_33 : decode cX2_finds 33 = .ok (.lcmp, 1) := by decide +kernel
theorem dX2_finds_34 : decode cX2_finds 34 = .ok (.ifCond .lt 66, 3) := by decide +kernel
theorem dX2_finds_37 : decode cX2_finds 37 = .ok (.aload_n 0, 1) := by decide +kernel
theorem dX2_finds_38 : decode cX2_finds 38 = .ok (.getfield 44, 3) := by decide +kernel
theorem dX2_finds_41 : decode cX2_finds 41 = .ok (.bipush 24, 2) := by decide +kernel
theorem dX2_finds_43 : decode cX2_finds 43 = .ok (.if_icmp .ne 5, 3) := by decide +kernel
theorem dX2_finds_46 : decode cX2_finds 46 = .ok (.iconst 0, 1) := by decide +kernel
theorem dX2_finds_47 : decode cX2_finds 47 = .ok (.ireturn, 1) := by decide +kernel
theorem dX2_finds_48 : decode cX2_finds 48 = .ok (.iload_n 1, 1) := by decide +kernel
theorem dX2_finds_49 : decode cX2_finds 49 = .ok (.ifCond .eq 25, 3) := by decide +kernel
theorem dX2_finds_52 : decode cX2_finds 52 = .ok (.lload 7, 2) := by decide +kernel
theorem dX2_finds_54 : decode cX2_finds 54 = .ok (.lload_n 2, 1) := by decide +kernel
theorem dX2_finds_55 : decode cX2_finds 55 = .ok (.lcmp, 1) := by decide +kernel
theorem dX2_finds_56 : decode cX2_finds 56 = .ok (.ifCond .gt 18, 3) := by decide +kernel
theorem dX2_finds_59 : decode cX2_finds 59 = .ok (.aload_n 0, 1) := by decide +kernel
theorem dX2_finds_60 : decode cX2_finds 60 = .ok (.dup, 1) := by decide +kernel
theorem dX2_finds_61 : decode cX2_finds 61 = .ok (.getfield 47, 3) := by decide +kernel
theorem dX2_finds_64 : decode cX2_finds 64 = .ok (.iconst 1, 1) := by decide +kernel
theorem dX2_finds_65 : decode cX2_finds 65 = .ok (.aload_n 0, 1) := by decide +kernel
theorem dX2_finds_66 : decode cX2_finds 66 = .ok (.getfield 44, 3) := by decide +kernel
theorem dX2_finds_69 : decode cX2_finds 69 = .ok (.ishl, 1) := by decide +kernel
theorem dX2_finds_70 : decode cX2_finds 70 = .ok (.ior, 1) := by decide +kernel
theorem dX2_finds_71 : decode cX2_finds 71 = .ok (.putfield 47, 3) := by decide +kernel
theorem dX2_finds_74 : decode cX2_finds 74 = .ok (.aload_n 0, 1) := by decide +kernel
theorem dX2_finds_75 : decode cX2_finds 75 = .ok (.dup, 1) := by decide +kernel
theorem dX2_finds_76 : decode cX2_finds 76 = .ok (.getfield 44, 3) := by decide +kernel
theorem dX2_finds_79 : decode cX2_finds 79 = .ok (.iconst 1, 1) := by decide +kernel
theorem dX2_finds_80 : decode cX2_finds 80 = .ok (.iadd, 1) := by decide +kernel
theorem dX2_finds_81 : decode cX2_finds 81 = .ok (.putfield 44, 3) := by decide +kernel
theorem dX2_finds_84 : decode cX2_finds 84 = .ok (.aload_n 0, 1) := by decide +kernel
theorem dX2_finds_85 : decode cX2_finds 85 = .ok (.getfield 47, 3) := by decide +kernel
theorem dX2_finds_88 : decode cX2_finds 88 = .ok (.aload_n 0, 1) := by decide +kernel
theorem dX2_finds_89 : decode cX2_finds 89 = .ok (.getfield 44, 3) := by decide +kernel
theorem dX2_finds_92 : decode cX2_finds 92 = .ok (.invokestatic 40, 3) := by decide +kernel
theorem dX2_finds_95 : decode cX2_finds 95 = .ok (.lstore 7, 2) := by decide +kernel
theorem dX2_finds_97 : decode cX2_finds 97 = .ok (.goto (-84), 3) := by decide +kernel
theorem dX2_finds_100 : decode cX2_finds 100 = .ok (.iconst 1, 1) := by decide +kernel
theorem dX2_finds_101 : decode cX2_finds 101 = .ok (.ireturn, 1) := by decide +kernel
theorem dX2_has_0 : decode cX2_has 0 = .ok (.lload_n 1, 1) := by decide +kernel
theorem dX2_has_1 : decode cX2_has 1 = .ok (.lstore 4, 2) := by decide +kernel
theorem dX2_has_3 : decode cX2_has 3 = .ok (.iload_n 3, 1) := by decide +kernel
theorem dX2_has_4 : decode cX2_has 4 = .ok (.istore 6, 2) := by decide +kernel
theorem dX2_has_6 : decode cX2_has 6 = .ok (.iload 6, 2) := by decide +kernel
theorem dX2_has_8 : decode cX2_has 8 = .ok (.ifCond .le 28, 3) := by decide +kernel
theorem dX2_has_11 : decode cX2_has 11 = .ok (.lload 4, 2) := by decide +kernel
theorem dX2_has_13 : decode cX2_has 13 = .ok (.ldc2_w 38, 3) := by decide +kernel
theorem dX2_has_16 : decode cX2_has 16 = .ok (.lrem, 1) := by decide +kernel
theorem dX2_has_17 : decode cX2_has 17 = .ok (.lconst 0, 1) := by decide +kernel
theorem dX2_has_18 : decode cX2_has 18 = .ok (.lcmp, 1) := by decide +kernel
theorem dX2_has_19 : decode cX2_has 19 = .ok (.ifCond .ne 17, 3) := by decide +kernel
theorem dX2_has_22 : decode cX2_has 22 = .ok (.lload 4, 2) := by decide +kernel
theorem dX2_has_24 : decode cX2_has 24 = .ok (.ldc2_w 38, 3) := by decide +kernel
theorem dX2_has_27 : decode cX2_has 27 = .ok (.ldiv, 1) := by decide +kernel
theorem dX2_has_28 : decode cX2_has 28 = .ok (.lstore 4, 2) := by decide +kernel
theorem dX2_has_30 : decode cX2_has 30 = .ok (.iinc 6 (-1), 3) := by decide +kernel
theorem dX2_has_33 : decode cX2_has 33 = .ok (.goto (-27), 3) := by decide +kernel
theorem dX2_has_36 : decode cX2_has 36 = .ok (.iload 6, 2) := by decide +kernel
theorem dX2_has_38 : decode cX2_has 38 = .ok (.bipush 23, 2) := by decide +kernel
theorem dX2_has_40 : decode cX2_has 40 = .ok (.if_icmp .gt 28, 3) := by decide +kernel
theorem dX2_has_43 : decode cX2_has 43 = .ok (.lload 4, 2) := by decide +kernel
theorem dX2_has_45 : decode cX2_has 45 = .ok (.ldc2_w 50, 3) := by decide +kernel
theorem dX2_has_48 : decode cX2_has 48 = .ok (.iload 6, 2) := by decide +kernel
theorem dX2_has_50 : decode cX2_has 50 = .ok (.lshl, 1) := by decide +kernel
theorem dX2_has_51 : decode cX2_has 51 = .ok (.lcmp, 1) := by decide +kernel
theorem dX2_has_52 : decode cX2_has 52 = .ok (.ifCond .gt 16, 3) := by decide +kernel
theorem dX2_has_55 : decode cX2_has 55 = .ok (.lload 4, 2) := by decide +kernel
theorem dX2_has_57 : decode cX2_has 57 = .ok (.ldc2_w 50, 3) := by decide +kernel
theorem dX2_has_60 : decode cX2_has 60 = .ok (.iload 6, 2) := by decide +kernel
theorem dX2_has_62 : decode cX2_has 62 = .ok (.lshl, 1) := by decide +kernel
theorem dX2_has_63 : decode cX2_has 63 = .ok (.lneg, 1) := by decide +kernel
theorem dX2_has_64 : decode cX2_has 64 = .ok (.lcmp, 1) := by decide +kernel
theorem dX2_has_65 : decode cX2_has 65 = .ok (.ifCond .ge 5, 3) := by decide +kernel
theorem dX2_has_68 : decode cX2_has 68 = .ok (.iconst 0, 1) := by decide +kernel
theorem dX2_has_69 : decode cX2_has 69 = .ok (.ireturn, 1) := by decide +kernel
theorem dX2_has_70 : decode cX2_has 70 = .ok (.lload 4, 2) := by decide +kernel
theorem dX2_has_72 : decode cX2_has 72 = .ok (.ldc2_w 36, 3) := by decide +kernel
theorem dX2_has_75 : decode cX2_has 75 = .ok (.iload 6, 2) := by decide +kernel
theorem dX2_has_77 : decode cX2_has 77 = .ok (.lshr, 1) := by decide +kernel
theorem dX2_has_78 : decode cX2_has 78 = .ok (.lmul, 1) := by decide +kernel
theorem dX2_has_79 : decode cX2_has 79 = .ok (.lstore 7, 2) := by decide +kernel
theorem dX2_has_81 : decode cX2_has 81 = .ok (.aload_n 0, 1) := by decide +kernel
theorem dX2_has_82 : decode cX2_has 82 = .ok (.iconst 0, 1) := by decide +kernel
theorem dX2_has_83 : decode cX2_has 83 = .ok (.putfield 44, 3) := by decide +kernel
theorem dX2_has_86 : decode cX2_has 86 = .ok (.aload_n 0, 1) := by decide +kernel
theorem dX2_has_87 : decode cX2_has 87 = .ok (.iconst 0, 1) := by decide +kernel
theorem dX2_has_88 : decode cX2_has 88 = .ok (.putfield 47, 3) := by decide +kernel
theorem dX2_has_91 : decode cX2_has 91 = .ok (.lconst 0, 1) := by decide +kernel
theorem dX2_has_92 : decode cX2_has 92 = .ok (.lstore 9, 2) := by decide +kernel
theorem dX2_has_94 : decode cX2_has 94 = .ok (.lload 9, 2) := by decide +kernel
theorem dX2_has_96 : decode cX2_has 96 = .ok (.lload 7, 2) := by decide +kernel
theorem dX2_has_98 : decode cX2_has 98 = .ok (.lcmp, 1) := by decide +kernel
theorem dX2_has_99 : decode cX2_has 99 = .ok (.ifCond .eq 63, 3) := by decide +kernel
theorem dX2_has_102 : decode cX2_has 102 = .ok (.aload_n 0, 1) := by decide +kernel
theorem dX2_has_103 : decode cX2_has 103 = .ok (.getfield 44, 3) := by decide +kernel
theorem dX2_has_106 : decode cX2_has 106 = .ok (.bipush 24, 2) := by decide +kernel
theorem dX2_has_108 : decode cX2_has 108 = .ok (.if_icmp .ne 5, 3) := by decide +kernel
theorem dX2_has_111 : decode cX2_has 111 = .ok (.iconst 0, 1) := by decide +kernel
theorem dX2_has_112 : decode cX2_has 112 = .ok (.ireturn, 1) := by decide +kernel
theorem dX2_has_113 : decode cX2_has 113 = .ok (.lload 9, 2) := by decide +kernel
theorem dX2_has_115 : decode cX2_has 115 = .ok (.lload 7, 2) := by decide +kernel
theorem dX2_has_117 : decode cX2_has 117 = .ok (.lcmp, 1) := by decide +kernel
theorem dX2_has_118 : decode cX2_has 118 = .ok (.ifCond .ge 18, 3) := by decide +kernel
theorem dX2_has_121 : decode cX2_has 121 = .ok (.aload_n 0, 1) := by decide +kernel
theorem dX2_has_122 : decode cX2_has 122 = .ok (.dup, 1) := by decide +kernel
theorem dX2_has_123 : decode cX2_has 123 = .ok (.getfield 47, 3) := by decide +kernel
theorem dX2_has_126 : decode cX2_has 126 = .ok (.iconst 1, 1) := by decide +kernel
theorem dX2_has_127 : decode cX2_has 127 = .ok (.aload_n 0, 1) := by decide +kernel
theorem dX2_has_128 : decode cX2_has 128 = .ok (.getfield 44, 3) := by decide +kernel
theorem dX2_has_131 : decode cX2_has 131 = .ok (.ishl, 1) := by decide +kernel
theorem dX2_has_132 : decode cX2_has 132 = .ok (.ior, 1) := by decide +kernel
theorem dX2_has_133 : decode cX2_has 133 = .ok (.putfield 47, 3) := by decide +kernel
theorem dX2_has_136 : decode cX2_has 136 = .ok (.aload_n 0, 1) := by decide +kernel
theorem dX2_has_137 : decode cX2_has 137 = .ok (.dup, 1) := by decide +kernel
theorem dX2_has_138 : decode cX2_has 138 = .ok (.getfield 44, 3) := by decide +kernel
theorem dX2_has_141 : decode cX2_has 141 = .ok (.iconst 1, 1) := by decide +kernel
theorem dX2_has_142 : decode cX2_has 142 = .ok (.iadd, 1) := by decide +kernel
theorem dX2_has_143 : decode cX2_has 143 = .ok (.putfield 44, 3) := by decide +kernel
theorem dX2_has_146 : decode cX2_has 146 = .ok (.aload_n 0, 1) := by decide +kernel
theorem dX2_has_147 : decode cX2_has 147 = .ok (.getfield 47, 3) := by decide +kernel
theorem dX2_has_150 : decode cX2_has 150 = .ok (.aload_n 0, 1) := by decide +kernel
theorem dX2_has_151 : decode cX2_has 151 = .ok (.getfield 44, 3) := by decide +kernel
theorem dX2_has_154 : decode cX2_has 154 = .ok (.invokestatic 40, 3) := by decide +kernel
theorem dX2_has_157 : decode cX2_has 157 = .ok (.lstore 9, 2) := by decide +kernel
theorem dX2_has_159 : decode cX2_has 159 = .ok (.goto (-65), 3) := by decide +kernel
theorem dX2_has_162 : decode cX2_has 162 = .ok (.iconst 1, 1) := by decide +kernel
theorem dX2_has_163 : decode cX2_has 163 = .ok (.ireturn, 1) := by decide +kernel
theorem dX2_keeps_0 : decode cX2_keeps 0 = .ok (.iload_n 2, 1) := by decide +kernel
theorem dX2_keeps_1 : decode cX2_keeps 1 = .ok (.ifCond .ne 6, 3) := by decide +kernel
theorem dX2_keeps_4 : decode cX2_keeps 4 = .ok (.bipush (-3), 2) := by decide +kernel
theorem dX2_keeps_6 : decode cX2_keeps 6 = .ok (.ireturn, 1) := by decide +kernel
theorem dX2_keeps_7 : decode cX2_keeps 7 = .ok (.aload_n 0, 1) := by decide +kernel
theorem dX2_keeps_8 : decode cX2_keeps 8 = .ok (.getfield 7, 3) := by decide +kernel
theorem dX2_keeps_11 : decode cX2_keeps 11 = .ok (.iload_n 1, 1) := by decide +kernel
theorem dX2_keeps_12 : decode cX2_keeps 12 = .ok (.aload_n 0, 1) := by decide +kernel
theorem dX2_keeps_13 : decode cX2_keeps 13 = .ok (.getfield 44, 3) := by decide +kernel
theorem dX2_keeps_16 : decode cX2_keeps 16 = .ok (.iastore, 1) := by decide +kernel
theorem dX2_keeps_17 : decode cX2_keeps 17 = .ok (.aload_n 0, 1) := by decide +kernel
theorem dX2_keeps_18 : decode cX2_keeps 18 = .ok (.getfield 13, 3) := by decide +kernel
theorem dX2_keeps_21 : decode cX2_keeps 21 = .ok (.iload_n 1, 1) := by decide +kernel
theorem dX2_keeps_22 : decode cX2_keeps 22 = .ok (.aload_n 0, 1) := by decide +kernel
theorem dX2_keeps_23 : decode cX2_keeps 23 = .ok (.getfield 47, 3) := by decide +kernel
theorem dX2_keeps_26 : decode cX2_keeps 26 = .ok (.iastore, 1) := by decide +kernel
theorem dX2_keeps_27 : decode cX2_keeps 27 = .ok (.aload_n 0, 1) := by decide +kernel
theorem dX2_keeps_28 : decode cX2_keeps 28 = .ok (.getfield 44, 3) := by decide +kernel
theorem dX2_keeps_31 : decode cX2_keeps 31 = .ok (.ireturn, 1) := by decide +kernel
theorem dX2_row_0 : decode cX2_row 0 = .ok (.iload_n 1, 1) := by decide +kernel
theorem dX2_row_1 : decode cX2_row 1 = .ok (.invokestatic 52, 3) := by decide +kernel
theorem dX2_row_4 : decode cX2_row 4 = .ok (.ifCond .eq 21, 3) := by decide +kernel
theorem dX2_row_7 : decode cX2_row 7 = .ok (.iload_n 2, 1) := by decide +kernel
theorem dX2_row_8 : decode cX2_row 8 = .ok (.i2l, 1) := by decide +kernel
theorem dX2_row_9 : decode cX2_row 9 = .ok (.lconst 0, 1) := by decide +kernel
theorem dX2_row_10 : decode cX2_row 10 = .ok (.ldc2_w 56, 3) := by decide +kernel
theorem dX2_row_13 : decode cX2_row 13 = .ok (.invokestatic 32, 3) := by decide +kernel
theorem dX2_row_16 : decode cX2_row 16 = .ok (.ifCond .eq 9, 3) := by decide +kernel
theorem dX2_row_19 : decode cX2_row 19 = .ok (.iload_n 3, 1) := by decide +kernel
theorem dX2_row_20 : decode cX2_row 20 = .ok (.iload_n 2, 1) := by decide +kernel
theorem dX2_row_21 : decode cX2_row 21 = .ok (.iushr, 1) := by decide +kernel
theorem dX2_row_22 : decode cX2_row 22 = .ok (.ifCond .eq 5, 3) := by decide +kernel
theorem dX2_row_25 : decode cX2_row 25 = .ok (.iconst (-1), 1) := by decide +kernel
theorem dX2_row_26 : decode cX2_row 26 = .ok (.ireturn, 1) := by decide +kernel
theorem dX2_row_27 : decode cX2_row 27 = .ok (.aload_n 0, 1) := by decide +kernel
theorem dX2_row_28 : decode cX2_row 28 = .ok (.getfield 7, 3) := by decide +kernel
theorem dX2_row_31 : decode cX2_row 31 = .ok (.iload_n 1, 1) := by decide +kernel
theorem dX2_row_32 : decode cX2_row 32 = .ok (.iload_n 2, 1) := by decide +kernel
theorem dX2_row_33 : decode cX2_row 33 = .ok (.iastore, 1) := by decide +kernel
theorem dX2_row_34 : decode cX2_row 34 = .ok (.aload_n 0, 1) := by decide +kernel
theorem dX2_row_35 : decode cX2_row 35 = .ok (.getfield 13, 3) := by decide +kernel
theorem dX2_row_38 : decode cX2_row 38 = .ok (.iload_n 1, 1) := by decide +kernel
theorem dX2_row_39 : decode cX2_row 39 = .ok (.iload_n 3, 1) := by decide +kernel
theorem dX2_row_40 : decode cX2_row 40 = .ok (.iastore, 1) := by decide +kernel
theorem dX2_row_41 : decode cX2_row 41 = .ok (.iload_n 2, 1) := by decide +kernel
theorem dX2_row_42 : decode cX2_row 42 = .ok (.ireturn, 1) := by decide +kernel
theorem dX2_number_0 : decode cX2_number 0 = .ok (.iload_n 1, 1) := by decide +kernel
theorem dX2_number_1 : decode cX2_number 1 = .ok (.invokestatic 52, 3) := by decide +kernel
theorem dX2_number_4 : decode cX2_number 4 = .ok (.ifCond .eq 29, 3) := by decide +kernel
theorem dX2_number_7 : decode cX2_number 7 = .ok (.iload_n 2, 1) := by decide +kernel
theorem dX2_number_8 : decode cX2_number 8 = .ok (.i2l, 1) := by decide +kernel
theorem dX2_number_9 : decode cX2_number 9 = .ok (.ldc2_w 58, 3) := by decide +kernel
theorem dX2_number_12 : decode cX2_number 12 = .ok (.ldc2_w 60, 3) := by decide +kernel
theorem dX2_number_15 : decode cX2_number 15 = .ok (.invokestatic 32, 3) := by decide +kernel
theorem dX2_number_18 : decode cX2_number 18 = .ok (.ifCond .eq 15, 3) := by decide +kernel
theorem dX2_number_21 : decode cX2_number 21 = .ok (.iload_n 3, 1) := by decide +kernel
theorem dX2_number_22 : decode cX2_number 22 = .ok (.i2l, 1) := by decide +kernel
theorem dX2_number_23 : decode cX2_number 23 = .ok (.lconst 0, 1) := by decide +kernel
theorem dX2_number_24 : decode cX2_number 24 = .ok (.ldc2_w 62, 3) := by decide +kernel
theorem dX2_number_27 : decode cX2_number 27 = .ok (.invokestatic 32, 3) := by decide +kernel
theorem dX2_number_30 : decode cX2_number 30 = .ok (.ifCond .ne 5, 3) := by decide +kernel
theorem dX2_number_33 : decode cX2_number 33 = .ok (.iconst (-1), 1) := by decide +kernel
theorem dX2_number_34 : decode cX2_number 34 = .ok (.ireturn, 1) := by decide +kernel
theorem dX2_number_35 : decode cX2_number 35 = .ok (.aload_n 0, 1) := by decide +kernel
theorem dX2_number_36 : decode cX2_number 36 = .ok (.iload_n 1, 1) := by decide +kernel
theorem dX2_number_37 : decode cX2_number 37 = .ok (.aload_n 0, 1) := by decide +kernel
theorem dX2_number_38 : decode cX2_number 38 = .ok (.iload_n 2, 1) := by decide +kernel
theorem dX2_number_39 : decode cX2_number 39 = .ok (.i2l, 1) := by decide +kernel
theorem dX2_number_40 : decode cX2_number 40 = .ok (.iload_n 3, 1) := by decide +kernel
theorem dX2_number_41 : decode cX2_number 41 = .ok (.invokevirtual 64, 3) := by decide +kernel
theorem dX2_number_44 : decode cX2_number 44 = .ok (.invokevirtual 68, 3) := by decide +kernel
theorem dX2_number_47 : decode cX2_number 47 = .ok (.ireturn, 1) := by decide +kernel
theorem dX2_at_0 : decode cX2_at 0 = .ok (.iload_n 1, 1) := by decide +kernel
theorem dX2_at_1 : decode cX2_at 1 = .ok (.invokestatic 52, 3) := by decide +kernel
theorem dX2_at_4 : decode cX2_at 4 = .ok (.ifCond .eq 8, 3) := by decide +kernel
theorem dX2_at_7 : decode cX2_at 7 = .ok (.iload_n 2, 1) := by decide +kernel
theorem dX2_at_8 : decode cX2_at 8 = .ok (.iconst (-1), 1) := by decide +kernel
theorem dX2_at_9 : decode cX2_at 9 = .ok (.if_icmp .ge 5, 3) := by decide +kernel
theorem dX2_at_12 : decode cX2_at 12 = .ok (.iconst (-1), 1) := by decide +kernel
theorem dX2_at_13 : decode cX2_at 13 = .ok (.ireturn, 1) := by decide +kernel
theorem dX2_at_14 : decode cX2_at 14 = .ok (.iload_n 2, 1) := by decide +kernel
theorem dX2_at_15 : decode cX2_at 15 = .ok (.ifCond .ge 12, 3) := by decide +kernel
theorem dX2_at_18 : decode cX2_at 18 = .ok (.aload_n 0, 1) := by decide +kernel
theorem dX2_at_19 : decode cX2_at 19 = .ok (.getfield 7, 3) := by decide +kernel
theorem dX2_at_22 : decode cX2_at 22 = .ok (.iload_n 1, 1) := by decide +kernel
theorem dX2_at_23 : decode cX2_at 23 = .ok (.iaload, 1) := by decide +kernel
theorem dX2_at_24 : decode cX2_at 24 = .ok (.goto 28, 3) := by decide +kernel
theorem dX2_at_27 : decode cX2_at 27 = .ok (.iload_n 2, 1) := by decide +kernel
theorem dX2_at_28 : decode cX2_at 28 = .ok (.aload_n 0, 1) := by decide +kernel
theorem dX2_at_29 : decode cX2_at 29 = .ok (.getfield 7, 3) := by decide +kernel
theorem dX2_at_32 : decode cX2_at 32 = .ok (.iload_n 1, 1) := by decide +kernel
theorem dX2_at_33 : decode cX2_at 33 = .ok (.iaload, 1) := by decide +kernel
theorem dX2_at_34 : decode cX2_at 34 = .ok (.if_icmp .ge 16, 3) := by decide +kernel
theorem dX2_at_37 : decode cX2_at 37 = .ok (.aload_n 0, 1) := by decide +kernel
theorem dX2_at_38 : decode cX2_at 38 = .ok (.getfield 13, 3) := by decide +kernel
theorem dX2_at_41 : decode cX2_at 41 = .ok (.iload_n 1, 1) := by decide +kernel
theorem dX2_at_42 : decode cX2_at 42 = .ok (.iaload, 1) := by decide +kernel
theorem dX2_at_43 : decode cX2_at 43 = .ok (.iload_n 2, 1) := by decide +kernel
theorem dX2_at_44 : decode cX2_at 44 = .ok (.ishr, 1) := by decide +kernel
theorem dX2_at_45 : decode cX2_at 45 = .ok (.iconst 1, 1) := by decide +kernel
theorem dX2_at_46 : decode cX2_at 46 = .ok (.iand, 1) := by decide +kernel
theorem dX2_at_47 : decode cX2_at 47 = .ok (.goto 5, 3) := by decide +kernel
theorem dX2_at_50 : decode cX2_at 50 = .ok (.bipush (-4), 2) := by decide +kernel
theorem dX2_at_52 : decode cX2_at 52 = .ok (.ireturn, 1) := by decide +kernel
theorem dX2_value_0 : decode cX2_value 0 = .ok (.iload_n 1, 1) := by decide +kernel
theorem dX2_value_1 : decode cX2_value 1 = .ok (.invokestatic 52, 3) := by decide +kernel
theorem dX2_value_4 : decode cX2_value 4 = .ok (.ifCond .eq 13, 3) := by decide +kernel
theorem dX2_value_7 : decode cX2_value 7 = .ok (.iload_n 2, 1) := by decide +kernel
theorem dX2_value_8 : decode cX2_value 8 = .ok (.i2l, 1) := by decide +kernel
theorem dX2_value_9 : decode cX2_value 9 = .ok (.lconst 0, 1) := by decide +kernel
theorem dX2_value_10 : decode cX2_value 10 = .ok (.lconst 1, 1) := by decide +kernel
theorem dX2_value_11 : decode cX2_value 11 = .ok (.invokestatic 32, 3) := by decide +kernel
theorem dX2_value_14 : decode cX2_value 14 = .ok (.ifCond .ne 6, 3) := by decide +kernel
theorem dX2_value_17 : decode cX2_value 17 = .ok (.ldc 72, 2) := by decide +kernel
theorem dX2_value_19 : decode cX2_value 19 = .ok (.ireturn, 1) := by decide +kernel
theorem dX2_value_20 : decode cX2_value 20 = .ok (.aload_n 0, 1) := by decide +kernel
theorem dX2_value_21 : decode cX2_value 21 = .ok (.iload_n 1, 1) := by decide +kernel
theorem dX2_value_22 : decode cX2_value 22 = .ok (.invokevirtual 73, 3) := by decide +kernel
theorem dX2_value_25 : decode cX2_value 25 = .ok (.lstore_n 3, 1) := by decide +kernel
theorem dX2_value_26 : decode cX2_value 26 = .ok (.bipush 24, 2) := by decide +kernel
theorem dX2_value_28 : decode cX2_value 28 = .ok (.istore 5, 2) := by decide +kernel
theorem dX2_value_30 : decode cX2_value 30 = .ok (.iload 5, 2) := by decide +kernel
theorem dX2_value_32 : decode cX2_value 32 = .ok (.ifCond .le 25, 3) := by decide +kernel
theorem dX2_value_35 : decode cX2_value 35 = .ok (.lload_n 3, 1) := by decide +kernel
theorem dX2_value_36 : decode cX2_value 36 = .ok (.ldc2_w 38, 3) := by decide +kernel
theorem dX2_value_39 : decode cX2_value 39 = .ok (.lrem, 1) := by decide +kernel
theorem dX2_value_40 : decode cX2_value 40 = .ok (.lconst 0, 1) := by decide +kernel
theorem dX2_value_41 : decode cX2_value 41 = .ok (.lcmp, 1) := by decide +kernel
theorem dX2_value_42 : decode cX2_value 42 = .ok (.ifCond .ne 15, 3) := by decide +kernel
theorem dX2_value_45 : decode cX2_value 45 = .ok (.lload_n 3, 1) := by decide +kernel
theorem dX2_value_46 : decode cX2_value 46 = .ok (.ldc2_w 38, 3) := by decide +kernel
theorem dX2_value_49 : decode cX2_value 49 = .ok (.ldiv, 1) := by decide +kernel
theorem dX2_value_50 : decode cX2_value 50 = .ok (.lstore_n 3, 1) := by decide +kernel
theorem dX2_value_51 : decode cX2_value 51 = .ok (.iinc 5 (-1), 3) := by decide +kernel
theorem dX2_value_54 : decode cX2_value 54 = .ok (.goto (-24), 3) := by decide +kernel
theorem dX2_value_57 : decode cX2_value 57 = .ok (.iload_n 2, 1) := by decide +kernel
theorem dX2_value_58 : decode cX2_value 58 = .ok (.ifCond .ne 8, 3) := by decide +kernel
theorem dX2_value_61 : decode cX2_value 61 = .ok (.lload_n 3, 1) := by decide +kernel
theorem dX2_value_62 : decode cX2_value 62 = .ok (.l2i, 1) := by decide +kernel
theorem dX2_value_63 : decode cX2_value 63 = .ok (.goto 5, 3) := by decide +kernel
theorem dX2_value_66 : decode cX2_value 66 = .ok (.iload 5, 2) := by decide +kernel
theorem dX2_value_68 : decode cX2_value 68 = .ok (.ireturn, 1) := by decide +kernel
theorem dX2_compare_0 : decode cX2_compare 0 = .ok (.lload_n 0, 1) := by decide +kernel
theorem dX2_compare_1 : decode cX2_compare 1 = .ok (.lload_n 2, 1) := by decide +kernel
theorem dX2_compare_2 : decode cX2_compare 2 = .ok (.lcmp, 1) := by decide +kernel
theorem dX2_compare_3 : decode cX2_compare 3 = .ok (.ifCond .ge 7, 3) := by decide +kernel
theorem dX2_compare_6 : decode cX2_compare 6 = .ok (.iconst (-1), 1) := by decide +kernel
theorem dX2_compare_7 : decode cX2_compare 7 = .ok (.goto 14, 3) := by decide +kernel
theorem dX2_compare_10 : decode cX2_compare 10 = .ok (.lload_n 0, 1) := by decide +kernel
theorem dX2_compare_11 : decode cX2_compare 11 = .ok (.lload_n 2, 1) := by decide +kernel
theorem dX2_compare_12 : decode cX2_compare 12 = .ok (.lcmp, 1) := by decide +kernel
theorem dX2_compare_13 : decode cX2_compare 13 = .ok (.ifCond .le 7, 3) := by decide +kernel
theorem dX2_compare_16 : decode cX2_compare 16 = .ok (.iconst 1, 1) := by decide +kernel
theorem dX2_compare_17 : decode cX2_compare 17 = .ok (.goto 4, 3) := by decide +kernel
theorem dX2_compare_20 : decode cX2_compare 20 = .ok (.iconst 0, 1) := by decide +kernel
theorem dX2_compare_21 : decode cX2_compare 21 = .ok (.ireturn, 1) := by decide +kernel
theorem dX2_against_0 : decode cX2_against 0 = .ok (.iload_n 1, 1) := by decide +kernel
theorem dX2_against_1 : decode cX2_against 1 = .ok (.invokestatic 52, 3) := by decide +kernel
theorem dX2_against_4 : decode cX2_against 4 = .ok (.ifCond .eq 26, 3) := by decide +kernel
theorem dX2_against_7 : decode cX2_against 7 = .ok (.iload_n 2, 1) := by decide +kernel
theorem dX2_against_8 : decode cX2_against 8 = .ok (.invokestatic 52, 3) := by decide +kernel
theorem dX2_against_11 : decode cX2_against 11 = .ok (.ifCond .eq 19, 3) := by decide +kernel
theorem dX2_against_14 : decode cX2_against 14 = .ok (.aload_n 0, 1) := by decide +kernel
theorem dX2_against_15 : decode cX2_against 15 = .ok (.iload_n 1, 1) := by decide +kernel
theorem dX2_against_16 : decode cX2_against 16 = .ok (.invokevirtual 73, 3) := by decide +kernel
theorem dX2_against_19 : decode cX2_against 19 = .ok (.aload_n 0, 1) := by decide +kernel
theorem dX2_against_20 : decode cX2_against 20 = .ok (.iload_n 2, 1) := by decide +kernel
theorem dX2_against_21 : decode cX2_against 21 = .ok (.invokevirtual 73, 3) := by decide +kernel
theorem dX2_against_24 : decode cX2_against 24 = .ok (.invokestatic 77, 3) := by decide +kernel
theorem dX2_against_27 : decode cX2_against 27 = .ok (.goto 5, 3) := by decide +kernel
theorem dX2_against_30 : decode cX2_against 30 = .ok (.bipush (-9), 2) := by decide +kernel
theorem dX2_against_32 : decode cX2_against 32 = .ok (.ireturn, 1) := by decide +kernel
theorem dX2_work_0 : decode cX2_work 0 = .ok (.iload_n 1, 1) := by decide +kernel
theorem dX2_work_1 : decode cX2_work 1 = .ok (.invokestatic 52, 3) := by decide +kernel
theorem dX2_work_4 : decode cX2_work 4 = .ok (.ifCond .eq 35, 3) := by decide +kernel
theorem dX2_work_7 : decode cX2_work 7 = .ok (.iload_n 2, 1) := by decide +kernel
theorem dX2_work_8 : decode cX2_work 8 = .ok (.i2l, 1) := by decide +kernel
theorem dX2_work_9 : decode cX2_work 9 = .ok (.lconst 0, 1) := by decide +kernel
theorem dX2_work_10 : decode cX2_work 10 = .ok (.ldc2_w 81, 3) := by decide +kernel
theorem dX2_work_13 : decode cX2_work 13 = .ok (.invokestatic 32, 3) := by decide +kernel
theorem dX2_work_16 : decode cX2_work 16 = .ok (.ifCond .eq 23, 3) := by decide +kernel
theorem dX2_work_19 : decode cX2_work 19 = .ok (.iload_n 3, 1) := by decide +kernel
theorem dX2_work_20 : decode cX2_work 20 = .ok (.invokestatic 52, 3) := by decide +kernel
theorem dX2_work_23 : decode cX2_work 23 = .ok (.ifCond .eq 16, 3) := by decide +kernel
theorem dX2_work_26 : decode cX2_work 26 = .ok (.iload_n 2, 1) := by decide +kernel
theorem dX2_work_27 : decode cX2_work 27 = .ok (.iconst 3, 1) := by decide +kernel
theorem dX2_work_28 : decode cX2_work 28 = .ok (.if_icmp .ge 13, 3) := by decide +kernel
theorem dX2_work_31 : decode cX2_work 31 = .ok (.iload 4, 2) := by decide +kernel
theorem dX2_work_33 : decode cX2_work 33 = .ok (.invokestatic 52, 3) := by decide +kernel
theorem dX2_work_36 : decode cX2_work 36 = .ok (.ifCond .ne 5, 3) := by decide +kernel
theorem dX2_work_39 : decode cX2_work 39 = .ok (.iconst (-1), 1) := by decide +kernel
theorem dX2_work_40 : decode cX2_work 40 = .ok (.ireturn, 1) := by decide +kernel
theorem dX2_work_41 : decode cX2_work 41 = .ok (.aload_n 0, 1) := by decide +kernel
theorem dX2_work_42 : decode cX2_work 42 = .ok (.iload_n 3, 1) := by decide +kernel
theorem dX2_work_43 : decode cX2_work 43 = .ok (.invokevirtual 73, 3) := by decide +kernel
theorem dX2_work_46 : decode cX2_work 46 = .ok (.lstore 5, 2) := by decide +kernel
theorem dX2_work_48 : decode cX2_work 48 = .ok (.iload_n 2, 1) := by decide +kernel
theorem dX2_work_49 : decode cX2_work 49 = .ok (.iconst 3, 1) := by decide +kernel
theorem dX2_work_50 : decode cX2_work 50 = .ok (.if_icmp .ge 12, 3) := by decide +kernel
theorem dX2_work_53 : decode cX2_work 53 = .ok (.aload_n 0, 1) := by decide +kernel
theorem dX2_work_54 : decode cX2_work 54 = .ok (.iload 4, 2) := by decide +kernel
theorem dX2_work_56 : decode cX2_work 56 = .ok (.invokevirtual 73, 3) := by decide +kernel
theorem dX2_work_59 : decode cX2_work 59 = .ok (.goto 4, 3) := by decide +kernel
theorem dX2_work_62 : decode cX2_work 62 = .ok (.lconst 0, 1) := by decide +kernel
theorem dX2_work_63 : decode cX2_work 63 = .ok (.lstore 7, 2) := by decide +kernel
theorem dX2_work_65 : decode cX2_work 65 = .ok (.iload_n 2, 1) := by decide +kernel
theorem dX2_work_66 : decode cX2_work 66 = .ok (.tableswitch 77 0 2 #[26, 43, 60], 26) := by decide +kernel
theorem dX2_work_92 : decode cX2_work 92 = .ok (.aload_n 0, 1) := by decide +kernel
theorem dX2_work_93 : decode cX2_work 93 = .ok (.iload_n 1, 1) := by decide +kernel
theorem dX2_work_94 : decode cX2_work 94 = .ok (.aload_n 0, 1) := by decide +kernel
theorem dX2_work_95 : decode cX2_work 95 = .ok (.lload 5, 2) := by decide +kernel
theorem dX2_work_97 : decode cX2_work 97 = .ok (.lload 7, 2) := by decide +kernel
theorem dX2_work_99 : decode cX2_work 99 = .ok (.ladd, 1) := by decide +kernel
theorem dX2_work_100 : decode cX2_work 100 = .ok (.bipush 24, 2) := by decide +kernel
theorem dX2_work_102 : decode cX2_work 102 = .ok (.invokevirtual 64, 3) := by decide +kernel
theorem dX2_work_105 : decode cX2_work 105 = .ok (.invokevirtual 68, 3) := by decide +kernel
theorem dX2_work_108 : decode cX2_work 108 = .ok (.ireturn, 1) := by decide +kernel
theorem dX2_work_109 : decode cX2_work 109 = .ok (.aload_n 0, 1) := by decide +kernel
theorem dX2_work_110 : decode cX2_work 110 = .ok (.iload_n 1, 1) := by decide +kernel
theorem dX2_work_111 : decode cX2_work 111 = .ok (.aload_n 0, 1) := by decide +kernel
theorem dX2_work_112 : decode cX2_work 112 = .ok (.lload 5, 2) := by decide +kernel
theorem dX2_work_114 : decode cX2_work 114 = .ok (.lload 7, 2) := by decide +kernel
theorem dX2_work_116 : decode cX2_work 116 = .ok (.lsub, 1) := by decide +kernel
theorem dX2_work_117 : decode cX2_work 117 = .ok (.bipush 24, 2) := by decide +kernel
theorem dX2_work_119 : decode cX2_work 119 = .ok (.invokevirtual 64, 3) := by decide +kernel
theorem dX2_work_122 : decode cX2_work 122 = .ok (.invokevirtual 68, 3) := by decide +kernel
theorem dX2_work_125 : decode cX2_work 125 = .ok (.ireturn, 1) := by decide +kernel
theorem dX2_work_126 : decode cX2_work 126 = .ok (.aload_n 0, 1) := by decide +kernel
theorem dX2_work_127 : decode cX2_work 127 = .ok (.iload_n 1, 1) := by decide +kernel
theorem dX2_work_128 : decode cX2_work 128 = .ok (.aload_n 0, 1) := by decide +kernel
theorem dX2_work_129 : decode cX2_work 129 = .ok (.lload 5, 2) := by decide +kernel
theorem dX2_work_131 : decode cX2_work 131 = .ok (.lload 7, 2) := by decide +kernel
theorem dX2_work_133 : decode cX2_work 133 = .ok (.lmul, 1) := by decide +kernel
theorem dX2_work_134 : decode cX2_work 134 = .ok (.bipush 48, 2) := by decide +kernel
theorem dX2_work_136 : decode cX2_work 136 = .ok (.invokevirtual 64, 3) := by decide +kernel
theorem dX2_work_139 : decode cX2_work 139 = .ok (.invokevirtual 68, 3) := by decide +kernel
theorem dX2_work_142 : decode cX2_work 142 = .ok (.ireturn, 1) := by decide +kernel
theorem dX2_work_143 : decode cX2_work 143 = .ok (.aload_n 0, 1) := by decide +kernel
theorem dX2_work_144 : decode cX2_work 144 = .ok (.iload_n 1, 1) := by decide +kernel
theorem dX2_work_145 : decode cX2_work 145 = .ok (.aload_n 0, 1) := by decide +kernel
theorem dX2_work_146 : decode cX2_work 146 = .ok (.lload 5, 2) := by decide +kernel
theorem dX2_work_148 : decode cX2_work 148 = .ok (.lneg, 1) := by decide +kernel
theorem dX2_work_149 : decode cX2_work 149 = .ok (.bipush 24, 2) := by decide +kernel
theorem dX2_work_151 : decode cX2_work 151 = .ok (.invokevirtual 64, 3) := by decide +kernel
theorem dX2_work_154 : decode cX2_work 154 = .ok (.invokevirtual 68, 3) := by decide +kernel
theorem dX2_work_157 : decode cX2_work 157 = .ok (.ireturn, 1) := by decide +kernel
theorem dX2_side_0 : decode cX2_side 0 = .ok (.iload_n 1, 1) := by decide +kernel
theorem dX2_side_1 : decode cX2_side 1 = .ok (.invokestatic 52, 3) := by decide +kernel
theorem dX2_side_4 : decode cX2_side 4 = .ok (.ifCond .eq 20, 3) := by decide +kernel
theorem dX2_side_7 : decode cX2_side 7 = .ok (.iload_n 2, 1) := by decide +kernel
theorem dX2_side_8 : decode cX2_side 8 = .ok (.invokestatic 52, 3) := by decide +kernel
theorem dX2_side_11 : decode cX2_side 11 = .ok (.ifCond .eq 13, 3) := by decide +kernel
theorem dX2_side_14 : decode cX2_side 14 = .ok (.iload_n 3, 1) := by decide +kernel
theorem dX2_side_15 : decode cX2_side 15 = .ok (.i2l, 1) := by decide +kernel
theorem dX2_side_16 : decode cX2_side 16 = .ok (.lconst 0, 1) := by decide +kernel
theorem dX2_side_17 : decode cX2_side 17 = .ok (.lconst 1, 1) := by decide +kernel
theorem dX2_side_18 : decode cX2_side 18 = .ok (.invokestatic 32, 3) := by decide +kernel
theorem dX2_side_21 : decode cX2_side 21 = .ok (.ifCond .ne 5, 3) := by decide +kernel
theorem dX2_side_24 : decode cX2_side 24 = .ok (.iconst (-1), 1) := by decide +kernel
theorem dX2_side_25 : decode cX2_side 25 = .ok (.ireturn, 1) := by decide +kernel
theorem dX2_side_26 : decode cX2_side 26 = .ok (.aload_n 0, 1) := by decide +kernel
theorem dX2_side_27 : decode cX2_side 27 = .ok (.getfield 7, 3) := by decide +kernel
theorem dX2_side_30 : decode cX2_side 30 = .ok (.iload_n 2, 1) := by decide +kernel
theorem dX2_side_31 : decode cX2_side 31 = .ok (.iaload, 1) := by decide +kernel
theorem dX2_side_32 : decode cX2_side 32 = .ok (.iconst 1, 1) := by decide +kernel
theorem dX2_side_33 : decode cX2_side 33 = .ok (.isub, 1) := by decide +kernel
theorem dX2_side_34 : decode cX2_side 34 = .ok (.istore 4, 2) := by decide +kernel
theorem dX2_side_36 : decode cX2_side 36 = .ok (.iload 4, 2) := by decide +kernel
theorem dX2_side_38 : decode cX2_side 38 = .ok (.ifCond .lt 26, 3) := by decide +kernel
theorem dX2_side_41 : decode cX2_side 41 = .ok (.aload_n 0, 1) := by decide +kernel
theorem dX2_side_42 : decode cX2_side 42 = .ok (.getfield 13, 3) := by decide +kernel
theorem dX2_side_45 : decode cX2_side 45 = .ok (.iload_n 2, 1) := by decide +kernel
theorem dX2_side_46 : decode cX2_side 46 = .ok (.iaload, 1) := by decide +kernel
theorem dX2_side_47 : decode cX2_side 47 = .ok (.iload 4, 2) := by decide +kernel
theorem dX2_side_49 : decode cX2_side 49 = .ok (.ishr, 1) := by decide +kernel
theorem dX2_side_50 : decode cX2_side 50 = .ok (.iconst 1, 1) := by decide +kernel
theorem dX2_side_51 : decode cX2_side 51 = .ok (.iand, 1) := by decide +kernel
theorem dX2_side_52 : decode cX2_side 52 = .ok (.iconst 1, 1) := by decide +kernel
theorem dX2_side_53 : decode cX2_side 53 = .ok (.iload_n 3, 1) := by decide +kernel
theorem dX2_side_54 : decode cX2_side 54 = .ok (.isub, 1) := by decide +kernel
theorem dX2_side_55 : decode cX2_side 55 = .ok (.if_icmp .eq 9, 3) := by decide +kernel
theorem dX2_side_58 : decode cX2_side 58 = .ok (.iinc 4 (-1), 3) := by decide +kernel
theorem dX2_side_61 : decode cX2_side 61 = .ok (.goto (-25), 3) := by decide +kernel
theorem dX2_side_64 : decode cX2_side 64 = .ok (.iload 4, 2) := by decide +kernel
theorem dX2_side_66 : decode cX2_side 66 = .ok (.ifCond .ge 6, 3) := by decide +kernel
theorem dX2_side_69 : decode cX2_side 69 = .ok (.bipush (-2), 2) := by decide +kernel
theorem dX2_side_71 : decode cX2_side 71 = .ok (.ireturn, 1) := by decide +kernel
theorem dX2_side_72 : decode cX2_side 72 = .ok (.aload_n 0, 1) := by decide +kernel
theorem dX2_side_73 : decode cX2_side 73 = .ok (.aload_n 0, 1) := by decide +kernel
theorem dX2_side_74 : decode cX2_side 74 = .ok (.getfield 13, 3) := by decide +kernel
theorem dX2_side_77 : decode cX2_side 77 = .ok (.iload_n 2, 1) := by decide +kernel
theorem dX2_side_78 : decode cX2_side 78 = .ok (.iaload, 1) := by decide +kernel
end
section
theorem dX2_side_79 : decode cX2_side 79 = .ok (.iconst 1, 1) := by decide +kernel
theorem dX2_side_80 : decode cX2_side 80 = .ok (.iload 4, 2) := by decide +kernel
theorem dX2_side_82 : decode cX2_side 82 = .ok (.ishl, 1) := by decide +kernel
theorem dX2_side_83 : decode cX2_side 83 = .ok (.iconst 1, 1) := by decide +kernel
theorem dX2_side_84 : decode cX2_side 84 = .ok (.isub, 1) := by decide +kernel
theorem dX2_side_85 : decode cX2_side 85 = .ok (.iand, 1) := by decide +kernel
theorem dX2_side_86 : decode cX2_side 86 = .ok (.putfield 47, 3) := by decide +kernel
theorem dX2_side_89 : decode cX2_side 89 = .ok (.aload_n 0, 1) := by decide +kernel
theorem dX2_side_90 : decode cX2_side 90 = .ok (.iload 4, 2) := by decide +kernel
theorem dX2_side_92 : decode cX2_side 92 = .ok (.putfield 44, 3) := by decide +kernel
theorem dX2_side_95 : decode cX2_side 95 = .ok (.aload_n 0, 1) := by decide +kernel
theorem dX2_side_96 : decode cX2_side 96 = .ok (.iload_n 1, 1) := by decide +kernel
theorem dX2_side_97 : decode cX2_side 97 = .ok (.iconst 1, 1) := by decide +kernel
theorem dX2_side_98 : decode cX2_side 98 = .ok (.invokevirtual 68, 3) := by decide +kernel
theorem dX2_side_101 : decode cX2_side 101 = .ok (.ireturn, 1) := by decide +kernel
theorem dX2_cut_0 : decode cX2_cut 0 = .ok (.iload_n 1, 1) := by decide +kernel
theorem dX2_cut_1 : decode cX2_cut 1 = .ok (.invokestatic 52, 3) := by decide +kernel
theorem dX2_cut_4 : decode cX2_cut 4 = .ok (.ifCond .eq 27, 3) := by decide +kernel
theorem dX2_cut_7 : decode cX2_cut 7 = .ok (.iload_n 2, 1) := by decide +kernel
theorem dX2_cut_8 : decode cX2_cut 8 = .ok (.i2l, 1) := by decide +kernel
theorem dX2_cut_9 : decode cX2_cut 9 = .ok (.lconst 0, 1) := by decide +kernel
theorem dX2_cut_10 : decode cX2_cut 10 = .ok (.ldc2_w 83, 3) := by decide +kernel
theorem dX2_cut_13 : decode cX2_cut 13 = .ok (.invokestatic 32, 3) := by decide +kernel
theorem dX2_cut_16 : decode cX2_cut 16 = .ok (.ifCond .eq 15, 3) := by decide +kernel
theorem dX2_cut_19 : decode cX2_cut 19 = .ok (.iload_n 3, 1) := by decide +kernel
theorem dX2_cut_20 : decode cX2_cut 20 = .ok (.i2l, 1) := by decide +kernel
theorem dX2_cut_21 : decode cX2_cut 21 = .ok (.lconst 0, 1) := by decide +kernel
theorem dX2_cut_22 : decode cX2_cut 22 = .ok (.ldc2_w 83, 3) := by decide +kernel
theorem dX2_cut_25 : decode cX2_cut 25 = .ok (.invokestatic 32, 3) := by decide +kernel
theorem dX2_cut_28 : decode cX2_cut 28 = .ok (.ifCond .ne 5, 3) := by decide +kernel
theorem dX2_cut_31 : decode cX2_cut 31 = .ok (.iconst (-1), 1) := by decide +kernel
theorem dX2_cut_32 : decode cX2_cut 32 = .ok (.ireturn, 1) := by decide +kernel
theorem dX2_cut_33 : decode cX2_cut 33 = .ok (.lconst 0, 1) := by decide +kernel
theorem dX2_cut_34 : decode cX2_cut 34 = .ok (.lstore 4, 2) := by decide +kernel
theorem dX2_cut_36 : decode cX2_cut 36 = .ok (.lconst 0, 1) := by decide +kernel
theorem dX2_cut_37 : decode cX2_cut 37 = .ok (.lstore 6, 2) := by decide +kernel
theorem dX2_cut_39 : decode cX2_cut 39 = .ok (.iconst 0, 1) := by decide +kernel
theorem dX2_cut_40 : decode cX2_cut 40 = .ok (.istore 8, 2) := by decide +kernel
theorem dX2_cut_42 : decode cX2_cut 42 = .ok (.iconst 0, 1) := by decide +kernel
theorem dX2_cut_43 : decode cX2_cut 43 = .ok (.istore 9, 2) := by decide +kernel
theorem dX2_cut_45 : decode cX2_cut 45 = .ok (.iconst 0, 1) := by decide +kernel
theorem dX2_cut_46 : decode cX2_cut 46 = .ok (.istore 10, 2) := by decide +kernel
theorem dX2_cut_48 : decode cX2_cut 48 = .ok (.iload 10, 2) := by decide +kernel
theorem dX2_cut_50 : decode cX2_cut 50 = .ok (.bipush 12, 2) := by decide +kernel
theorem dX2_cut_52 : decode cX2_cut 52 = .ok (.if_icmp .ge 76, 3) := by decide +kernel
theorem dX2_cut_55 : decode cX2_cut 55 = .ok (.iconst 0, 1) := by decide +kernel
theorem dX2_cut_56 : decode cX2_cut 56 = .ok (.istore 11, 2) := by decide +kernel
theorem dX2_cut_58 : decode cX2_cut 58 = .ok (.iload 11, 2) := by decide +kernel
theorem dX2_cut_60 : decode cX2_cut 60 = .ok (.bipush 12, 2) := by decide +kernel
theorem dX2_cut_62 : decode cX2_cut 62 = .ok (.if_icmp .ge 60, 3) := by decide +kernel
theorem dX2_cut_65 : decode cX2_cut 65 = .ok (.iload_n 2, 1) := by decide +kernel
theorem dX2_cut_66 : decode cX2_cut 66 = .ok (.iload 10, 2) := by decide +kernel
theorem dX2_cut_68 : decode cX2_cut 68 = .ok (.ishr, 1) := by decide +kernel
theorem dX2_cut_69 : decode cX2_cut 69 = .ok (.iconst 1, 1) := by decide +kernel
theorem dX2_cut_70 : decode cX2_cut 70 = .ok (.iand, 1) := by decide +kernel
theorem dX2_cut_71 : decode cX2_cut 71 = .ok (.iconst 1, 1) := by decide +kernel
theorem dX2_cut_72 : decode cX2_cut 72 = .ok (.if_icmp .ne 50, 3) := by decide +kernel
theorem dX2_cut_75 : decode cX2_cut 75 = .ok (.iload_n 3, 1) := by decide +kernel
theorem dX2_cut_76 : decode cX2_cut 76 = .ok (.iload 11, 2) := by decide +kernel
theorem dX2_cut_78 : decode cX2_cut 78 = .ok (.ishr, 1) := by decide +kernel
theorem dX2_cut_79 : decode cX2_cut 79 = .ok (.iconst 1, 1) := by decide +kernel
theorem dX2_cut_80 : decode cX2_cut 80 = .ok (.iand, 1) := by decide +kernel
theorem dX2_cut_81 : decode cX2_cut 81 = .ok (.iconst 1, 1) := by decide +kernel
theorem dX2_cut_82 : decode cX2_cut 82 = .ok (.if_icmp .ne 34, 3) := by decide +kernel
theorem dX2_cut_85 : decode cX2_cut 85 = .ok (.aload_n 0, 1) := by decide +kernel
theorem dX2_cut_86 : decode cX2_cut 86 = .ok (.iload 10, 2) := by decide +kernel
theorem dX2_cut_88 : decode cX2_cut 88 = .ok (.invokevirtual 73, 3) := by decide +kernel
theorem dX2_cut_91 : decode cX2_cut 91 = .ok (.aload_n 0, 1) := by decide +kernel
theorem dX2_cut_92 : decode cX2_cut 92 = .ok (.iload 11, 2) := by decide +kernel
theorem dX2_cut_94 : decode cX2_cut 94 = .ok (.invokevirtual 73, 3) := by decide +kernel
theorem dX2_cut_97 : decode cX2_cut 97 = .ok (.lcmp, 1) := by decide +kernel
theorem dX2_cut_98 : decode cX2_cut 98 = .ok (.ifCond .lt 18, 3) := by decide +kernel
theorem dX2_cut_101 : decode cX2_cut 101 = .ok (.aload_n 0, 1) := by decide +kernel
theorem dX2_cut_102 : decode cX2_cut 102 = .ok (.iload 10, 2) := by decide +kernel
theorem dX2_cut_104 : decode cX2_cut 104 = .ok (.putfield 16, 3) := by decide +kernel
theorem dX2_cut_107 : decode cX2_cut 107 = .ok (.aload_n 0, 1) := by decide +kernel
theorem dX2_cut_108 : decode cX2_cut 108 = .ok (.iload 11, 2) := by decide +kernel
theorem dX2_cut_110 : decode cX2_cut 110 = .ok (.putfield 20, 3) := by decide +kernel
theorem dX2_cut_113 : decode cX2_cut 113 = .ok (.bipush (-2), 2) := by decide +kernel
theorem dX2_cut_115 : decode cX2_cut 115 = .ok (.ireturn, 1) := by decide +kernel
theorem dX2_cut_116 : decode cX2_cut 116 = .ok (.iinc 11 1, 3) := by decide +kernel
theorem dX2_cut_119 : decode cX2_cut 119 = .ok (.goto (-61), 3) := by decide +kernel
theorem dX2_cut_122 : decode cX2_cut 122 = .ok (.iinc 10 1, 3) := by decide +kernel
theorem dX2_cut_125 : decode cX2_cut 125 = .ok (.goto (-77), 3) := by decide +kernel
theorem dX2_cut_128 : decode cX2_cut 128 = .ok (.iconst 0, 1) := by decide +kernel
theorem dX2_cut_129 : decode cX2_cut 129 = .ok (.istore 10, 2) := by decide +kernel
theorem dX2_cut_131 : decode cX2_cut 131 = .ok (.iload 10, 2) := by decide +kernel
theorem dX2_cut_133 : decode cX2_cut 133 = .ok (.bipush 12, 2) := by decide +kernel
theorem dX2_cut_135 : decode cX2_cut 135 = .ok (.if_icmp .ge 95, 3) := by decide +kernel
theorem dX2_cut_138 : decode cX2_cut 138 = .ok (.iload_n 2, 1) := by decide +kernel
theorem dX2_cut_139 : decode cX2_cut 139 = .ok (.iload 10, 2) := by decide +kernel
theorem dX2_cut_141 : decode cX2_cut 141 = .ok (.ishr, 1) := by decide +kernel
theorem dX2_cut_142 : decode cX2_cut 142 = .ok (.iconst 1, 1) := by decide +kernel
theorem dX2_cut_143 : decode cX2_cut 143 = .ok (.iand, 1) := by decide +kernel
theorem dX2_cut_144 : decode cX2_cut 144 = .ok (.iconst 1, 1) := by decide +kernel
theorem dX2_cut_145 : decode cX2_cut 145 = .ok (.if_icmp .ne 36, 3) := by decide +kernel
theorem dX2_cut_148 : decode cX2_cut 148 = .ok (.iload 8, 2) := by decide +kernel
theorem dX2_cut_150 : decode cX2_cut 150 = .ok (.ifCond .eq 15, 3) := by decide +kernel
theorem dX2_cut_153 : decode cX2_cut 153 = .ok (.aload_n 0, 1) := by decide +kernel
theorem dX2_cut_154 : decode cX2_cut 154 = .ok (.iload 10, 2) := by decide +kernel
theorem dX2_cut_156 : decode cX2_cut 156 = .ok (.invokevirtual 73, 3) := by decide +kernel
theorem dX2_cut_159 : decode cX2_cut 159 = .ok (.lload 4, 2) := by decide +kernel
theorem dX2_cut_161 : decode cX2_cut 161 = .ok (.lcmp, 1) := by decide +kernel
theorem dX2_cut_162 : decode cX2_cut 162 = .ok (.ifCond .le 12, 3) := by decide +kernel
theorem dX2_cut_165 : decode cX2_cut 165 = .ok (.aload_n 0, 1) := by decide +kernel
theorem dX2_cut_166 : decode cX2_cut 166 = .ok (.iload 10, 2) := by decide +kernel
theorem dX2_cut_168 : decode cX2_cut 168 = .ok (.invokevirtual 73, 3) := by decide +kernel
theorem dX2_cut_171 : decode cX2_cut 171 = .ok (.goto 5, 3) := by decide +kernel
theorem dX2_cut_174 : decode cX2_cut 174 = .ok (.lload 4, 2) := by decide +kernel
theorem dX2_cut_176 : decode cX2_cut 176 = .ok (.lstore 4, 2) := by decide +kernel
theorem dX2_cut_178 : decode cX2_cut 178 = .ok (.iconst 1, 1) := by decide +kernel
theorem dX2_cut_179 : decode cX2_cut 179 = .ok (.istore 8, 2) := by decide +kernel
theorem dX2_cut_181 : decode cX2_cut 181 = .ok (.iload_n 3, 1) := by decide +kernel
theorem dX2_cut_182 : decode cX2_cut 182 = .ok (.iload 10, 2) := by decide +kernel
theorem dX2_cut_184 : decode cX2_cut 184 = .ok (.ishr, 1) := by decide +kernel
theorem dX2_cut_185 : decode cX2_cut 185 = .ok (.iconst 1, 1) := by decide +kernel
theorem dX2_cut_186 : decode cX2_cut 186 = .ok (.iand, 1) := by decide +kernel
theorem dX2_cut_187 : decode cX2_cut 187 = .ok (.iconst 1, 1) := by decide +kernel
theorem dX2_cut_188 : decode cX2_cut 188 = .ok (.if_icmp .ne 36, 3) := by decide +kernel
theorem dX2_cut_191 : decode cX2_cut 191 = .ok (.iload 9, 2) := by decide +kernel
theorem dX2_cut_193 : decode cX2_cut 193 = .ok (.ifCond .eq 15, 3) := by decide +kernel
theorem dX2_cut_196 : decode cX2_cut 196 = .ok (.aload_n 0, 1) := by decide +kernel
theorem dX2_cut_197 : decode cX2_cut 197 = .ok (.iload 10, 2) := by decide +kernel
theorem dX2_cut_199 : decode cX2_cut 199 = .ok (.invokevirtual 73, 3) := by decide +kernel
theorem dX2_cut_202 : decode cX2_cut 202 = .ok (.lload 6, 2) := by decide +kernel
theorem dX2_cut_204 : decode cX2_cut 204 = .ok (.lcmp, 1) := by decide +kernel
theorem dX2_cut_205 : decode cX2_cut 205 = .ok (.ifCond .ge 12, 3) := by decide +kernel
theorem dX2_cut_208 : decode cX2_cut 208 = .ok (.aload_n 0, 1) := by decide +kernel
theorem dX2_cut_209 : decode cX2_cut 209 = .ok (.iload 10, 2) := by decide +kernel
theorem dX2_cut_211 : decode cX2_cut 211 = .ok (.invokevirtual 73, 3) := by decide +kernel
theorem dX2_cut_214 : decode cX2_cut 214 = .ok (.goto 5, 3) := by decide +kernel
theorem dX2_cut_217 : decode cX2_cut 217 = .ok (.lload 6, 2) := by decide +kernel
theorem dX2_cut_219 : decode cX2_cut 219 = .ok (.lstore 6, 2) := by decide +kernel
theorem dX2_cut_221 : decode cX2_cut 221 = .ok (.iconst 1, 1) := by decide +kernel
theorem dX2_cut_222 : decode cX2_cut 222 = .ok (.istore 9, 2) := by decide +kernel
theorem dX2_cut_224 : decode cX2_cut 224 = .ok (.iinc 10 1, 3) := by decide +kernel
theorem dX2_cut_227 : decode cX2_cut 227 = .ok (.goto (-96), 3) := by decide +kernel
theorem dX2_cut_230 : decode cX2_cut 230 = .ok (.aload_n 0, 1) := by decide +kernel
theorem dX2_cut_231 : decode cX2_cut 231 = .ok (.iload_n 1, 1) := by decide +kernel
theorem dX2_cut_232 : decode cX2_cut 232 = .ok (.aload_n 0, 1) := by decide +kernel
theorem dX2_cut_233 : decode cX2_cut 233 = .ok (.iload 8, 2) := by decide +kernel
theorem dX2_cut_235 : decode cX2_cut 235 = .ok (.lload 4, 2) := by decide +kernel
theorem dX2_cut_237 : decode cX2_cut 237 = .ok (.iload 9, 2) := by decide +kernel
theorem dX2_cut_239 : decode cX2_cut 239 = .ok (.lload 6, 2) := by decide +kernel
theorem dX2_cut_241 : decode cX2_cut 241 = .ok (.invokevirtual 85, 3) := by decide +kernel
theorem dX2_cut_244 : decode cX2_cut 244 = .ok (.invokevirtual 68, 3) := by decide +kernel
theorem dX2_cut_247 : decode cX2_cut 247 = .ok (.ireturn, 1) := by decide +kernel
theorem dX2_pair_0 : decode cX2_pair 0 = .ok (.iload_n 1, 1) := by decide +kernel
theorem dX2_pair_1 : decode cX2_pair 1 = .ok (.ifCond .ne 10, 3) := by decide +kernel
theorem dX2_pair_4 : decode cX2_pair 4 = .ok (.aload_n 0, 1) := by decide +kernel
theorem dX2_pair_5 : decode cX2_pair 5 = .ok (.getfield 16, 3) := by decide +kernel
theorem dX2_pair_8 : decode cX2_pair 8 = .ok (.goto 16, 3) := by decide +kernel
theorem dX2_pair_11 : decode cX2_pair 11 = .ok (.iload_n 1, 1) := by decide +kernel
theorem dX2_pair_12 : decode cX2_pair 12 = .ok (.iconst 1, 1) := by decide +kernel
theorem dX2_pair_13 : decode cX2_pair 13 = .ok (.if_icmp .ne 10, 3) := by decide +kernel
theorem dX2_pair_16 : decode cX2_pair 16 = .ok (.aload_n 0, 1) := by decide +kernel
theorem dX2_pair_17 : decode cX2_pair 17 = .ok (.getfield 20, 3) := by decide +kernel
theorem dX2_pair_20 : decode cX2_pair 20 = .ok (.goto 4, 3) := by decide +kernel
theorem dX2_pair_23 : decode cX2_pair 23 = .ok (.iconst (-1), 1) := by decide +kernel
theorem dX2_pair_24 : decode cX2_pair 24 = .ok (.ireturn, 1) := by decide +kernel
theorem dX2_born_0 : decode cX2_born 0 = .ok (.iload_n 1, 1) := by decide +kernel
theorem dX2_born_1 : decode cX2_born 1 = .ok (.invokestatic 52, 3) := by decide +kernel
theorem dX2_born_4 : decode cX2_born 4 = .ok (.ifCond .eq 30, 3) := by decide +kernel
theorem dX2_born_7 : decode cX2_born 7 = .ok (.iload_n 2, 1) := by decide +kernel
theorem dX2_born_8 : decode cX2_born 8 = .ok (.i2l, 1) := by decide +kernel
theorem dX2_born_9 : decode cX2_born 9 = .ok (.lconst 0, 1) := by decide +kernel
theorem dX2_born_10 : decode cX2_born 10 = .ok (.ldc2_w 62, 3) := by decide +kernel
theorem dX2_born_13 : decode cX2_born 13 = .ok (.invokestatic 32, 3) := by decide +kernel
theorem dX2_born_16 : decode cX2_born 16 = .ok (.ifCond .eq 18, 3) := by decide +kernel
theorem dX2_born_19 : decode cX2_born 19 = .ok (.iload_n 3, 1) := by decide +kernel
theorem dX2_born_20 : decode cX2_born 20 = .ok (.i2l, 1) := by decide +kernel
theorem dX2_born_21 : decode cX2_born 21 = .ok (.lconst 0, 1) := by decide +kernel
theorem dX2_born_22 : decode cX2_born 22 = .ok (.iconst 1, 1) := by decide +kernel
theorem dX2_born_23 : decode cX2_born 23 = .ok (.iload_n 2, 1) := by decide +kernel
theorem dX2_born_24 : decode cX2_born 24 = .ok (.ishl, 1) := by decide +kernel
theorem dX2_born_25 : decode cX2_born 25 = .ok (.iconst 1, 1) := by decide +kernel
theorem dX2_born_26 : decode cX2_born 26 = .ok (.isub, 1) := by decide +kernel
theorem dX2_born_27 : decode cX2_born 27 = .ok (.i2l, 1) := by decide +kernel
theorem dX2_born_28 : decode cX2_born 28 = .ok (.invokestatic 32, 3) := by decide +kernel
theorem dX2_born_31 : decode cX2_born 31 = .ok (.ifCond .ne 5, 3) := by decide +kernel
theorem dX2_born_34 : decode cX2_born 34 = .ok (.iconst (-1), 1) := by decide +kernel
theorem dX2_born_35 : decode cX2_born 35 = .ok (.ireturn, 1) := by decide +kernel
theorem dX2_born_36 : decode cX2_born 36 = .ok (.aload_n 0, 1) := by decide +kernel
theorem dX2_born_37 : decode cX2_born 37 = .ok (.iload_n 2, 1) := by decide +kernel
theorem dX2_born_38 : decode cX2_born 38 = .ok (.putfield 44, 3) := by decide +kernel
theorem dX2_born_41 : decode cX2_born 41 = .ok (.aload_n 0, 1) := by decide +kernel
theorem dX2_born_42 : decode cX2_born 42 = .ok (.iconst 0, 1) := by decide +kernel
theorem dX2_born_43 : decode cX2_born 43 = .ok (.putfield 47, 3) := by decide +kernel
theorem dX2_born_46 : decode cX2_born 46 = .ok (.iconst 0, 1) := by decide +kernel
theorem dX2_born_47 : decode cX2_born 47 = .ok (.istore 4, 2) := by decide +kernel
theorem dX2_born_49 : decode cX2_born 49 = .ok (.iload 4, 2) := by decide +kernel
theorem dX2_born_51 : decode cX2_born 51 = .ok (.iload_n 2, 1) := by decide +kernel
theorem dX2_born_52 : decode cX2_born 52 = .ok (.if_icmp .ge 31, 3) := by decide +kernel
theorem dX2_born_55 : decode cX2_born 55 = .ok (.aload_n 0, 1) := by decide +kernel
theorem dX2_born_56 : decode cX2_born 56 = .ok (.dup, 1) := by decide +kernel
theorem dX2_born_57 : decode cX2_born 57 = .ok (.getfield 47, 3) := by decide +kernel
theorem dX2_born_60 : decode cX2_born 60 = .ok (.iload_n 3, 1) := by decide +kernel
theorem dX2_born_61 : decode cX2_born 61 = .ok (.iload_n 2, 1) := by decide +kernel
theorem dX2_born_62 : decode cX2_born 62 = .ok (.iconst 1, 1) := by decide +kernel
theorem dX2_born_63 : decode cX2_born 63 = .ok (.isub, 1) := by decide +kernel
theorem dX2_born_64 : decode cX2_born 64 = .ok (.iload 4, 2) := by decide +kernel
theorem dX2_born_66 : decode cX2_born 66 = .ok (.isub, 1) := by decide +kernel
theorem dX2_born_67 : decode cX2_born 67 = .ok (.ishr, 1) := by decide +kernel
theorem dX2_born_68 : decode cX2_born 68 = .ok (.iconst 1, 1) := by decide +kernel
theorem dX2_born_69 : decode cX2_born 69 = .ok (.iand, 1) := by decide +kernel
theorem dX2_born_70 : decode cX2_born 70 = .ok (.iload 4, 2) := by decide +kernel
theorem dX2_born_72 : decode cX2_born 72 = .ok (.ishl, 1) := by decide +kernel
theorem dX2_born_73 : decode cX2_born 73 = .ok (.ior, 1) := by decide +kernel
theorem dX2_born_74 : decode cX2_born 74 = .ok (.putfield 47, 3) := by decide +kernel
theorem dX2_born_77 : decode cX2_born 77 = .ok (.iinc 4 1, 3) := by decide +kernel
theorem dX2_born_80 : decode cX2_born 80 = .ok (.goto (-31), 3) := by decide +kernel
theorem dX2_born_83 : decode cX2_born 83 = .ok (.aload_n 0, 1) := by decide +kernel
theorem dX2_born_84 : decode cX2_born 84 = .ok (.iload_n 1, 1) := by decide +kernel
theorem dX2_born_85 : decode cX2_born 85 = .ok (.iconst 1, 1) := by decide +kernel
theorem dX2_born_86 : decode cX2_born 86 = .ok (.invokevirtual 68, 3) := by decide +kernel
theorem dX2_born_89 : decode cX2_born 89 = .ok (.ireturn, 1) := by decide +kernel
theorem dX2_size_0 : decode cX2_size 0 = .ok (.iload_n 0, 1) := by decide +kernel
theorem dX2_size_1 : decode cX2_size 1 = .ok (.iload_n 1, 1) := by decide +kernel
theorem dX2_size_2 : decode cX2_size 2 = .ok (.if_icmp .gt 15, 3) := by decide +kernel
theorem dX2_size_5 : decode cX2_size 5 = .ok (.iconst 1, 1) := by decide +kernel
theorem dX2_size_6 : decode cX2_size 6 = .ok (.iload_n 1, 1) := by decide +kernel
theorem dX2_size_7 : decode cX2_size 7 = .ok (.iload_n 0, 1) := by decide +kernel
theorem dX2_size_8 : decode cX2_size 8 = .ok (.isub, 1) := by decide +kernel
theorem dX2_size_9 : decode cX2_size 9 = .ok (.iconst 1, 1) := by decide +kernel
theorem dX2_size_10 : decode cX2_size 10 = .ok (.iadd, 1) := by decide +kernel
theorem dX2_size_11 : decode cX2_size 11 = .ok (.ishl, 1) := by decide +kernel
theorem dX2_size_12 : decode cX2_size 12 = .ok (.iconst 1, 1) := by decide +kernel
theorem dX2_size_13 : decode cX2_size 13 = .ok (.isub, 1) := by decide +kernel
theorem dX2_size_14 : decode cX2_size 14 = .ok (.goto 4, 3) := by decide +kernel
theorem dX2_size_17 : decode cX2_size 17 = .ok (.iconst 0, 1) := by decide +kernel
theorem dX2_size_18 : decode cX2_size 18 = .ok (.ireturn, 1) := by decide +kernel
theorem dX2_lesser_0 : decode cX2_lesser 0 = .ok (.iconst 0, 1) := by decide +kernel
theorem dX2_lesser_1 : decode cX2_lesser 1 = .ok (.istore_n 3, 1) := by decide +kernel
theorem dX2_lesser_2 : decode cX2_lesser 2 = .ok (.iconst 0, 1) := by decide +kernel
theorem dX2_lesser_3 : decode cX2_lesser 3 = .ok (.istore 4, 2) := by decide +kernel
theorem dX2_lesser_5 : decode cX2_lesser 5 = .ok (.iload 4, 2) := by decide +kernel
theorem dX2_lesser_7 : decode cX2_lesser 7 = .ok (.aload_n 0, 1) := by decide +kernel
theorem dX2_lesser_8 : decode cX2_lesser 8 = .ok (.getfield 7, 3) := by decide +kernel
theorem dX2_lesser_11 : decode cX2_lesser 11 = .ok (.iload_n 1, 1) := by decide +kernel
theorem dX2_lesser_12 : decode cX2_lesser 12 = .ok (.iaload, 1) := by decide +kernel
theorem dX2_lesser_13 : decode cX2_lesser 13 = .ok (.if_icmp .ge 47, 3) := by decide +kernel
theorem dX2_lesser_16 : decode cX2_lesser 16 = .ok (.iload 4, 2) := by decide +kernel
theorem dX2_lesser_18 : decode cX2_lesser 18 = .ok (.iload_n 2, 1) := by decide +kernel
theorem dX2_lesser_19 : decode cX2_lesser 19 = .ok (.if_icmp .gt 41, 3) := by decide +kernel
theorem dX2_lesser_22 : decode cX2_lesser 22 = .ok (.iload_n 3, 1) := by decide +kernel
theorem dX2_lesser_23 : decode cX2_lesser 23 = .ok (.aload_n 0, 1) := by decide +kernel
theorem dX2_lesser_24 : decode cX2_lesser 24 = .ok (.getfield 13, 3) := by decide +kernel
theorem dX2_lesser_27 : decode cX2_lesser 27 = .ok (.iload_n 1, 1) := by decide +kernel
theorem dX2_lesser_28 : decode cX2_lesser 28 = .ok (.iaload, 1) := by decide +kernel
theorem dX2_lesser_29 : decode cX2_lesser 29 = .ok (.iload 4, 2) := by decide +kernel
theorem dX2_lesser_31 : decode cX2_lesser 31 = .ok (.ishr, 1) := by decide +kernel
theorem dX2_lesser_32 : decode cX2_lesser 32 = .ok (.iconst 1, 1) := by decide +kernel
theorem dX2_lesser_33 : decode cX2_lesser 33 = .ok (.iand, 1) := by decide +kernel
theorem dX2_lesser_34 : decode cX2_lesser 34 = .ok (.iconst 1, 1) := by decide +kernel
theorem dX2_lesser_35 : decode cX2_lesser 35 = .ok (.if_icmp .ne 16, 3) := by decide +kernel
theorem dX2_lesser_38 : decode cX2_lesser 38 = .ok (.iconst 1, 1) := by decide +kernel
theorem dX2_lesser_39 : decode cX2_lesser 39 = .ok (.iload 4, 2) := by decide +kernel
theorem dX2_lesser_41 : decode cX2_lesser 41 = .ok (.iconst 1, 1) := by decide +kernel
theorem dX2_lesser_42 : decode cX2_lesser 42 = .ok (.iadd, 1) := by decide +kernel
theorem dX2_lesser_43 : decode cX2_lesser 43 = .ok (.iload_n 2, 1) := by decide +kernel
theorem dX2_lesser_44 : decode cX2_lesser 44 = .ok (.invokestatic 89, 3) := by decide +kernel
theorem dX2_lesser_47 : decode cX2_lesser 47 = .ok (.iadd, 1) := by decide +kernel
theorem dX2_lesser_48 : decode cX2_lesser 48 = .ok (.goto 4, 3) := by decide +kernel
theorem dX2_lesser_51 : decode cX2_lesser 51 = .ok (.iconst 0, 1) := by decide +kernel
theorem dX2_lesser_52 : decode cX2_lesser 52 = .ok (.iadd, 1) := by decide +kernel
theorem dX2_lesser_53 : decode cX2_lesser 53 = .ok (.istore_n 3, 1) := by decide +kernel
theorem dX2_lesser_54 : decode cX2_lesser 54 = .ok (.iinc 4 1, 3) := by decide +kernel
theorem dX2_lesser_57 : decode cX2_lesser 57 = .ok (.goto (-52), 3) := by decide +kernel
theorem dX2_lesser_60 : decode cX2_lesser 60 = .ok (.aload_n 0, 1) := by decide +kernel
theorem dX2_lesser_61 : decode cX2_lesser 61 = .ok (.getfield 7, 3) := by decide +kernel
theorem dX2_lesser_64 : decode cX2_lesser 64 = .ok (.iload_n 1, 1) := by decide +kernel
theorem dX2_lesser_65 : decode cX2_lesser 65 = .ok (.iaload, 1) := by decide +kernel
theorem dX2_lesser_66 : decode cX2_lesser 66 = .ok (.iload_n 2, 1) := by decide +kernel
theorem dX2_lesser_67 : decode cX2_lesser 67 = .ok (.if_icmp .gt 20, 3) := by decide +kernel
theorem dX2_lesser_70 : decode cX2_lesser 70 = .ok (.iload_n 3, 1) := by decide +kernel
theorem dX2_lesser_71 : decode cX2_lesser 71 = .ok (.aload_n 0, 1) := by decide +kernel
theorem dX2_lesser_72 : decode cX2_lesser 72 = .ok (.getfield 7, 3) := by decide +kernel
theorem dX2_lesser_75 : decode cX2_lesser 75 = .ok (.iload_n 1, 1) := by decide +kernel
theorem dX2_lesser_76 : decode cX2_lesser 76 = .ok (.iaload, 1) := by decide +kernel
theorem dX2_lesser_77 : decode cX2_lesser 77 = .ok (.iconst 1, 1) := by decide +kernel
theorem dX2_lesser_78 : decode cX2_lesser 78 = .ok (.iadd, 1) := by decide +kernel
theorem dX2_lesser_79 : decode cX2_lesser 79 = .ok (.iload_n 2, 1) := by decide +kernel
theorem dX2_lesser_80 : decode cX2_lesser 80 = .ok (.invokestatic 89, 3) := by decide +kernel
theorem dX2_lesser_83 : decode cX2_lesser 83 = .ok (.iadd, 1) := by decide +kernel
theorem dX2_lesser_84 : decode cX2_lesser 84 = .ok (.goto 4, 3) := by decide +kernel
theorem dX2_lesser_87 : decode cX2_lesser 87 = .ok (.iload_n 3, 1) := by decide +kernel
theorem dX2_lesser_88 : decode cX2_lesser 88 = .ok (.ireturn, 1) := by decide +kernel
theorem dX2_between_0 : decode cX2_between 0 = .ok (.iload_n 1, 1) := by decide +kernel
theorem dX2_between_1 : decode cX2_between 1 = .ok (.invokestatic 52, 3) := by decide +kernel
theorem dX2_between_4 : decode cX2_between 4 = .ok (.ifCond .eq 22, 3) := by decide +kernel
theorem dX2_between_7 : decode cX2_between 7 = .ok (.iload_n 2, 1) := by decide +kernel
theorem dX2_between_8 : decode cX2_between 8 = .ok (.invokestatic 52, 3) := by decide +kernel
theorem dX2_between_11 : decode cX2_between 11 = .ok (.ifCond .eq 15, 3) := by decide +kernel
theorem dX2_between_14 : decode cX2_between 14 = .ok (.iload_n 3, 1) := by decide +kernel
theorem dX2_between_15 : decode cX2_between 15 = .ok (.i2l, 1) := by decide +kernel
theorem dX2_between_16 : decode cX2_between 16 = .ok (.lconst 0, 1) := by decide +kernel
theorem dX2_between_17 : decode cX2_between 17 = .ok (.ldc2_w 62, 3) := by decide +kernel
theorem dX2_between_20 : decode cX2_between 20 = .ok (.invokestatic 32, 3) := by decide +kernel
theorem dX2_between_23 : decode cX2_between 23 = .ok (.ifCond .ne 5, 3) := by decide +kernel
theorem dX2_between_26 : decode cX2_between 26 = .ok (.iconst (-1), 1) := by decide +kernel
theorem dX2_between_27 : decode cX2_between 27 = .ok (.ireturn, 1) := by decide +kernel
theorem dX2_between_28 : decode cX2_between 28 = .ok (.aload_n 0, 1) := by decide +kernel
theorem dX2_between_29 : decode cX2_between 29 = .ok (.iload_n 1, 1) := by decide +kernel
theorem dX2_between_30 : decode cX2_between 30 = .ok (.invokevirtual 73, 3) := by decide +kernel
theorem dX2_between_33 : decode cX2_between 33 = .ok (.aload_n 0, 1) := by decide +kernel
theorem dX2_between_34 : decode cX2_between 34 = .ok (.iload_n 2, 1) := by decide +kernel
theorem dX2_between_35 : decode cX2_between 35 = .ok (.invokevirtual 73, 3) := by decide +kernel
theorem dX2_between_38 : decode cX2_between 38 = .ok (.lcmp, 1) := by decide +kernel
theorem dX2_between_39 : decode cX2_between 39 = .ok (.ifCond .lt 6, 3) := by decide +kernel
theorem dX2_between_42 : decode cX2_between 42 = .ok (.bipush (-2), 2) := by decide +kernel
theorem dX2_between_44 : decode cX2_between 44 = .ok (.ireturn, 1) := by decide +kernel
theorem dX2_between_45 : decode cX2_between 45 = .ok (.aload_n 0, 1) := by decide +kernel
theorem dX2_between_46 : decode cX2_between 46 = .ok (.iload_n 2, 1) := by decide +kernel
theorem dX2_between_47 : decode cX2_between 47 = .ok (.iload_n 3, 1) := by decide +kernel
theorem dX2_between_48 : decode cX2_between 48 = .ok (.invokevirtual 93, 3) := by decide +kernel
theorem dX2_between_51 : decode cX2_between 51 = .ok (.aload_n 0, 1) := by decide +kernel
theorem dX2_between_52 : decode cX2_between 52 = .ok (.iload_n 1, 1) := by decide +kernel
theorem dX2_between_53 : decode cX2_between 53 = .ok (.iload_n 3, 1) := by decide +kernel
theorem dX2_between_54 : decode cX2_between 54 = .ok (.invokevirtual 93, 3) := by decide +kernel
theorem dX2_between_57 : decode cX2_between 57 = .ok (.isub, 1) := by decide +kernel
theorem dX2_between_58 : decode cX2_between 58 = .ok (.aload_n 0, 1) := by decide +kernel
theorem dX2_between_59 : decode cX2_between 59 = .ok (.getfield 7, 3) := by decide +kernel
theorem dX2_between_62 : decode cX2_between 62 = .ok (.iload_n 1, 1) := by decide +kernel
theorem dX2_between_63 : decode cX2_between 63 = .ok (.iaload, 1) := by decide +kernel
theorem dX2_between_64 : decode cX2_between 64 = .ok (.iload_n 3, 1) := by decide +kernel
theorem dX2_between_65 : decode cX2_between 65 = .ok (.if_icmp .gt 7, 3) := by decide +kernel
theorem dX2_between_68 : decode cX2_between 68 = .ok (.iconst 1, 1) := by decide +kernel
theorem dX2_between_69 : decode cX2_between 69 = .ok (.goto 4, 3) := by decide +kernel
theorem dX2_between_72 : decode cX2_between 72 = .ok (.iconst 0, 1) := by decide +kernel
theorem dX2_between_73 : decode cX2_between 73 = .ok (.isub, 1) := by decide +kernel
theorem dX2_between_74 : decode cX2_between 74 = .ok (.ireturn, 1) := by decide +kernel
theorem dX2_wins_0 : decode cX2_wins 0 = .ok (.iload_n 1, 1) := by decide +kernel
theorem dX2_wins_1 : decode cX2_wins 1 = .ok (.i2l, 1) := by decide +kernel
theorem dX2_wins_2 : decode cX2_wins 2 = .ok (.lconst 0, 1) := by decide +kernel
theorem dX2_wins_3 : decode cX2_wins 3 = .ok (.ldc2_w 83, 3) := by decide +kernel
theorem dX2_wins_6 : decode cX2_wins 6 = .ok (.invokestatic 32, 3) := by decide +kernel
theorem dX2_wins_9 : decode cX2_wins 9 = .ok (.ifCond .eq 13, 3) := by decide +kernel
theorem dX2_wins_12 : decode cX2_wins 12 = .ok (.iload_n 2, 1) := by decide +kernel
theorem dX2_wins_13 : decode cX2_wins 13 = .ok (.i2l, 1) := by decide +kernel
theorem dX2_wins_14 : decode cX2_wins 14 = .ok (.lconst 0, 1) := by decide +kernel
theorem dX2_wins_15 : decode cX2_wins 15 = .ok (.lconst 1, 1) := by decide +kernel
theorem dX2_wins_16 : decode cX2_wins 16 = .ok (.invokestatic 32, 3) := by decide +kernel
theorem dX2_wins_19 : decode cX2_wins 19 = .ok (.ifCond .ne 5, 3) := by decide +kernel
theorem dX2_wins_22 : decode cX2_wins 22 = .ok (.iconst (-1), 1) := by decide +kernel
theorem dX2_wins_23 : decode cX2_wins 23 = .ok (.ireturn, 1) := by decide +kernel
theorem dX2_wins_24 : decode cX2_wins 24 = .ok (.iconst 0, 1) := by decide +kernel
theorem dX2_wins_25 : decode cX2_wins 25 = .ok (.istore_n 3, 1) := by decide +kernel
theorem dX2_wins_26 : decode cX2_wins 26 = .ok (.iconst 0, 1) := by decide +kernel
theorem dX2_wins_27 : decode cX2_wins 27 = .ok (.istore 4, 2) := by decide +kernel
theorem dX2_wins_29 : decode cX2_wins 29 = .ok (.lconst 0, 1) := by decide +kernel
theorem dX2_wins_30 : decode cX2_wins 30 = .ok (.lstore 5, 2) := by decide +kernel
theorem dX2_wins_32 : decode cX2_wins 32 = .ok (.iconst 0, 1) := by decide +kernel
theorem dX2_wins_33 : decode cX2_wins 33 = .ok (.istore 7, 2) := by decide +kernel
theorem dX2_wins_35 : decode cX2_wins 35 = .ok (.iload 7, 2) := by decide +kernel
theorem dX2_wins_37 : decode cX2_wins 37 = .ok (.bipush 12, 2) := by decide +kernel
theorem dX2_wins_39 : decode cX2_wins 39 = .ok (.if_icmp .ge 45, 3) := by decide +kernel
theorem dX2_wins_42 : decode cX2_wins 42 = .ok (.iload_n 1, 1) := by decide +kernel
theorem dX2_wins_43 : decode cX2_wins 43 = .ok (.iload 7, 2) := by decide +kernel
theorem dX2_wins_45 : decode cX2_wins 45 = .ok (.ishr, 1) := by decide +kernel
theorem dX2_wins_46 : decode cX2_wins 46 = .ok (.iconst 1, 1) := by decide +kernel
theorem dX2_wins_47 : decode cX2_wins 47 = .ok (.iand, 1) := by decide +kernel
theorem dX2_wins_48 : decode cX2_wins 48 = .ok (.iconst 1, 1) := by decide +kernel
theorem dX2_wins_49 : decode cX2_wins 49 = .ok (.if_icmp .ne 29, 3) := by decide +kernel
theorem dX2_wins_52 : decode cX2_wins 52 = .ok (.iinc 3 1, 3) := by decide +kernel
theorem dX2_wins_55 : decode cX2_wins 55 = .ok (.iload 4, 2) := by decide +kernel
theorem dX2_wins_57 : decode cX2_wins 57 = .ok (.aload_n 0, 1) := by decide +kernel
theorem dX2_wins_58 : decode cX2_wins 58 = .ok (.getfield 7, 3) := by decide +kernel
theorem dX2_wins_61 : decode cX2_wins 61 = .ok (.iload 7, 2) := by decide +kernel
theorem dX2_wins_63 : decode cX2_wins 63 = .ok (.iaload, 1) := by decide +kernel
theorem dX2_wins_64 : decode cX2_wins 64 = .ok (.iadd, 1) := by decide +kernel
theorem dX2_wins_65 : decode cX2_wins 65 = .ok (.istore 4, 2) := by decide +kernel
theorem dX2_wins_67 : decode cX2_wins 67 = .ok (.lload 5, 2) := by decide +kernel
theorem dX2_wins_69 : decode cX2_wins 69 = .ok (.aload_n 0, 1) := by decide +kernel
theorem dX2_wins_70 : decode cX2_wins 70 = .ok (.iload 7, 2) := by decide +kernel
theorem dX2_wins_72 : decode cX2_wins 72 = .ok (.invokevirtual 73, 3) := by decide +kernel
theorem dX2_wins_75 : decode cX2_wins 75 = .ok (.ladd, 1) := by decide +kernel
theorem dX2_wins_76 : decode cX2_wins 76 = .ok (.lstore 5, 2) := by decide +kernel
theorem dX2_wins_78 : decode cX2_wins 78 = .ok (.iinc 7 1, 3) := by decide +kernel
theorem dX2_wins_81 : decode cX2_wins 81 = .ok (.goto (-46), 3) := by decide +kernel
theorem dX2_wins_84 : decode cX2_wins 84 = .ok (.iload_n 3, 1) := by decide +kernel
theorem dX2_wins_85 : decode cX2_wins 85 = .ok (.iconst 4, 1) := by decide +kernel
theorem dX2_wins_86 : decode cX2_wins 86 = .ok (.if_icmp .gt 10, 3) := by decide +kernel
theorem dX2_wins_89 : decode cX2_wins 89 = .ok (.iload 4, 2) := by decide +kernel
theorem dX2_wins_91 : decode cX2_wins 91 = .ok (.bipush 14, 2) := by decide +kernel
theorem dX2_wins_93 : decode cX2_wins 93 = .ok (.if_icmp .le 6, 3) := by decide +kernel
theorem dX2_wins_96 : decode cX2_wins 96 = .ok (.bipush (-2), 2) := by decide +kernel
theorem dX2_wins_98 : decode cX2_wins 98 = .ok (.ireturn, 1) := by decide +kernel
theorem dX2_wins_99 : decode cX2_wins 99 = .ok (.iload_n 2, 1) := by decide +kernel
theorem dX2_wins_100 : decode cX2_wins 100 = .ok (.ifCond .ne 13, 3) := by decide +kernel
theorem dX2_wins_103 : decode cX2_wins 103 = .ok (.lload 5, 2) := by decide +kernel
theorem dX2_wins_105 : decode cX2_wins 105 = .ok (.lconst 0, 1) := by decide +kernel
theorem dX2_wins_106 : decode cX2_wins 106 = .ok (.lcmp, 1) := by decide +kernel
theorem dX2_wins_107 : decode cX2_wins 107 = .ok (.ifCond .le 17, 3) := by decide +kernel
theorem dX2_wins_110 : decode cX2_wins 110 = .ok (.goto 10, 3) := by decide +kernel
theorem dX2_wins_113 : decode cX2_wins 113 = .ok (.lload 5, 2) := by decide +kernel
theorem dX2_wins_115 : decode cX2_wins 115 = .ok (.lconst 0, 1) := by decide +kernel
theorem dX2_wins_116 : decode cX2_wins 116 = .ok (.lcmp, 1) := by decide +kernel
theorem dX2_wins_117 : decode cX2_wins 117 = .ok (.ifCond .ge 7, 3) := by decide +kernel
theorem dX2_wins_120 : decode cX2_wins 120 = .ok (.iconst 1, 1) := by decide +kernel
theorem dX2_wins_121 : decode cX2_wins 121 = .ok (.goto 4, 3) := by decide +kernel
theorem dX2_wins_124 : decode cX2_wins 124 = .ok (.iconst 0, 1) := by decide +kernel
theorem dX2_wins_125 : decode cX2_wins 125 = .ok (.ireturn, 1) := by decide +kernel
theorem dX2_plain_0 : decode cX2_plain 0 = .ok (.aload_n 0, 1) := by decide +kernel
theorem dX2_plain_1 : decode cX2_plain 1 = .ok (.lload_n 1, 1) := by decide +kernel
theorem dX2_plain_2 : decode cX2_plain 2 = .ok (.putfield 96, 3) := by decide +kernel
theorem dX2_plain_5 : decode cX2_plain 5 = .ok (.aload_n 0, 1) := by decide +kernel
theorem dX2_plain_6 : decode cX2_plain 6 = .ok (.iload_n 3, 1) := by decide +kernel
theorem dX2_plain_7 : decode cX2_plain 7 = .ok (.putfield 100, 3) := by decide +kernel
theorem dX2_plain_10 : decode cX2_plain 10 = .ok (.aload_n 0, 1) := by decide +kernel
theorem dX2_plain_11 : decode cX2_plain 11 = .ok (.getfield 100, 3) := by decide +kernel
theorem dX2_plain_14 : decode cX2_plain 14 = .ok (.ifCond .le 41, 3) := by decide +kernel
theorem dX2_plain_17 : decode cX2_plain 17 = .ok (.aload_n 0, 1) := by decide +kernel
theorem dX2_plain_18 : decode cX2_plain 18 = .ok (.getfield 96, 3) := by decide +kernel
theorem dX2_plain_21 : decode cX2_plain 21 = .ok (.ldc2_w 38, 3) := by decide +kernel
theorem dX2_plain_24 : decode cX2_plain 24 = .ok (.lrem, 1) := by decide +kernel
theorem dX2_plain_25 : decode cX2_plain 25 = .ok (.lconst 0, 1) := by decide +kernel
theorem dX2_plain_26 : decode cX2_plain 26 = .ok (.lcmp, 1) := by decide +kernel
theorem dX2_plain_27 : decode cX2_plain 27 = .ok (.ifCond .ne 28, 3) := by decide +kernel
theorem dX2_plain_30 : decode cX2_plain 30 = .ok (.aload_n 0, 1) := by decide +kernel
theorem dX2_plain_31 : decode cX2_plain 31 = .ok (.dup, 1) := by decide +kernel
theorem dX2_plain_32 : decode cX2_plain 32 = .ok (.getfield 96, 3) := by decide +kernel
theorem dX2_plain_35 : decode cX2_plain 35 = .ok (.ldc2_w 38, 3) := by decide +kernel
theorem dX2_plain_38 : decode cX2_plain 38 = .ok (.ldiv, 1) := by decide +kernel
theorem dX2_plain_39 : decode cX2_plain 39 = .ok (.putfield 96, 3) := by decide +kernel
theorem dX2_plain_42 : decode cX2_plain 42 = .ok (.aload_n 0, 1) := by decide +kernel
theorem dX2_plain_43 : decode cX2_plain 43 = .ok (.dup, 1) := by decide +kernel
theorem dX2_plain_44 : decode cX2_plain 44 = .ok (.getfield 100, 3) := by decide +kernel
theorem dX2_plain_47 : decode cX2_plain 47 = .ok (.iconst 1, 1) := by decide +kernel
theorem dX2_plain_48 : decode cX2_plain 48 = .ok (.isub, 1) := by decide +kernel
theorem dX2_plain_49 : decode cX2_plain 49 = .ok (.putfield 100, 3) := by decide +kernel
theorem dX2_plain_52 : decode cX2_plain 52 = .ok (.goto (-42), 3) := by decide +kernel
theorem dX2_plain_55 : decode cX2_plain 55 = .ok (.aload_n 0, 1) := by decide +kernel
theorem dX2_plain_56 : decode cX2_plain 56 = .ok (.getfield 96, 3) := by decide +kernel
theorem dX2_plain_59 : decode cX2_plain 59 = .ok (.ldc2_w 58, 3) := by decide +kernel
theorem dX2_plain_62 : decode cX2_plain 62 = .ok (.ldc2_w 60, 3) := by decide +kernel
theorem dX2_plain_65 : decode cX2_plain 65 = .ok (.invokestatic 32, 3) := by decide +kernel
theorem dX2_plain_68 : decode cX2_plain 68 = .ok (.ifCond .eq 16, 3) := by decide +kernel
theorem dX2_plain_71 : decode cX2_plain 71 = .ok (.aload_n 0, 1) := by decide +kernel
theorem dX2_plain_72 : decode cX2_plain 72 = .ok (.getfield 100, 3) := by decide +kernel
theorem dX2_plain_75 : decode cX2_plain 75 = .ok (.bipush 20, 2) := by decide +kernel
theorem dX2_plain_77 : decode cX2_plain 77 = .ok (.if_icmp .gt 7, 3) := by decide +kernel
theorem dX2_plain_80 : decode cX2_plain 80 = .ok (.iconst 1, 1) := by decide +kernel
theorem dX2_plain_81 : decode cX2_plain 81 = .ok (.goto 4, 3) := by decide +kernel
theorem dX2_plain_84 : decode cX2_plain 84 = .ok (.iconst 0, 1) := by decide +kernel
theorem dX2_plain_85 : decode cX2_plain 85 = .ok (.ireturn, 1) := by decide +kernel
theorem dX2_isSum_0 : decode cX2_isSum 0 = .ok (.iload_n 0, 1) := by decide +kernel
theorem dX2_isSum_1 : decode cX2_isSum 1 = .ok (.i2l, 1) := by decide +kernel
theorem dX2_isSum_2 : decode cX2_isSum 2 = .ok (.lconst 0, 1) := by decide +kernel
theorem dX2_isSum_3 : decode cX2_isSum 3 = .ok (.ldc2_w 103, 3) := by decide +kernel
theorem dX2_isSum_6 : decode cX2_isSum 6 = .ok (.invokestatic 32, 3) := by decide +kernel
theorem dX2_isSum_9 : decode cX2_isSum 9 = .ok (.ireturn, 1) := by decide +kernel
theorem dX2_place_0 : decode cX2_place 0 = .ok (.bipush 13, 2) := by decide +kernel
theorem dX2_place_2 : decode cX2_place 2 = .ok (.iload_n 0, 1) := by decide +kernel
theorem dX2_place_3 : decode cX2_place 3 = .ok (.imul, 1) := by decide +kernel
theorem dX2_place_4 : decode cX2_place 4 = .ok (.iload_n 1, 1) := by decide +kernel
theorem dX2_place_5 : decode cX2_place 5 = .ok (.iadd, 1) := by decide +kernel
theorem dX2_place_6 : decode cX2_place 6 = .ok (.bipush 6, 2) := by decide +kernel
theorem dX2_place_8 : decode cX2_place 8 = .ok (.iadd, 1) := by decide +kernel
theorem dX2_place_9 : decode cX2_place 9 = .ok (.ireturn, 1) := by decide +kernel
theorem dX2_terms_0 : decode cX2_terms 0 = .ok (.iconst 0, 1) := by decide +kernel
theorem dX2_terms_1 : decode cX2_terms 1 = .ok (.istore_n 2, 1) := by decide +kernel
theorem dX2_terms_2 : decode cX2_terms 2 = .ok (.bipush (-6), 2) := by decide +kernel
theorem dX2_terms_4 : decode cX2_terms 4 = .ok (.istore_n 3, 1) := by decide +kernel
theorem dX2_terms_5 : decode cX2_terms 5 = .ok (.iload_n 3, 1) := by decide +kernel
theorem dX2_terms_6 : decode cX2_terms 6 = .ok (.bipush 6, 2) := by decide +kernel
theorem dX2_terms_8 : decode cX2_terms 8 = .ok (.if_icmp .gt 32, 3) := by decide +kernel
theorem dX2_terms_11 : decode cX2_terms 11 = .ok (.iload_n 2, 1) := by decide +kernel
theorem dX2_terms_12 : decode cX2_terms 12 = .ok (.aload_n 0, 1) := by decide +kernel
theorem dX2_terms_13 : decode cX2_terms 13 = .ok (.getfield 23, 3) := by decide +kernel
theorem dX2_terms_16 : decode cX2_terms 16 = .ok (.iload_n 1, 1) := by decide +kernel
theorem dX2_terms_17 : decode cX2_terms 17 = .ok (.iload_n 3, 1) := by decide +kernel
theorem dX2_terms_18 : decode cX2_terms 18 = .ok (.invokestatic 105, 3) := by decide +kernel
theorem dX2_terms_21 : decode cX2_terms 21 = .ok (.laload, 1) := by decide +kernel
theorem dX2_terms_22 : decode cX2_terms 22 = .ok (.lconst 0, 1) := by decide +kernel
theorem dX2_terms_23 : decode cX2_terms 23 = .ok (.lcmp, 1) := by decide +kernel
theorem dX2_terms_24 : decode cX2_terms 24 = .ok (.ifCond .eq 7, 3) := by decide +kernel
theorem dX2_terms_27 : decode cX2_terms 27 = .ok (.iconst 1, 1) := by decide +kernel
theorem dX2_terms_28 : decode cX2_terms 28 = .ok (.goto 4, 3) := by decide +kernel
theorem dX2_terms_31 : decode cX2_terms 31 = .ok (.iconst 0, 1) := by decide +kernel
theorem dX2_terms_32 : decode cX2_terms 32 = .ok (.iadd, 1) := by decide +kernel
theorem dX2_terms_33 : decode cX2_terms 33 = .ok (.istore_n 2, 1) := by decide +kernel
theorem dX2_terms_34 : decode cX2_terms 34 = .ok (.iinc 3 1, 3) := by decide +kernel
theorem dX2_terms_37 : decode cX2_terms 37 = .ok (.goto (-32), 3) := by decide +kernel
theorem dX2_terms_40 : decode cX2_terms 40 = .ok (.iload_n 2, 1) := by decide +kernel
theorem dX2_terms_41 : decode cX2_terms 41 = .ok (.ireturn, 1) := by decide +kernel
theorem dX2_copies_0 : decode cX2_copies 0 = .ok (.bipush (-6), 2) := by decide +kernel
theorem dX2_copies_2 : decode cX2_copies 2 = .ok (.istore_n 3, 1) := by decide +kernel
theorem dX2_copies_3 : decode cX2_copies 3 = .ok (.iload_n 3, 1) := by decide +kernel
theorem dX2_copies_4 : decode cX2_copies 4 = .ok (.bipush 6, 2) := by decide +kernel
theorem dX2_copies_6 : decode cX2_copies 6 = .ok (.if_icmp .gt 65, 3) := by decide +kernel
theorem dX2_copies_9 : decode cX2_copies 9 = .ok (.aload_n 0, 1) := by decide +kernel
theorem dX2_copies_10 : decode cX2_copies 10 = .ok (.getfield 23, 3) := by decide +kernel
theorem dX2_copies_13 : decode cX2_copies 13 = .ok (.iload_n 1, 1) := by decide +kernel
theorem dX2_copies_14 : decode cX2_copies 14 = .ok (.iload_n 3, 1) := by decide +kernel
theorem dX2_copies_15 : decode cX2_copies 15 = .ok (.invokestatic 105, 3) := by decide +kernel
theorem dX2_copies_18 : decode cX2_copies 18 = .ok (.iload_n 2, 1) := by decide +kernel
theorem dX2_copies_19 : decode cX2_copies 19 = .ok (.ifCond .ge 7, 3) := by decide +kernel
theorem dX2_copies_22 : decode cX2_copies 22 = .ok (.lconst 0, 1) := by decide +kernel
theorem dX2_copies_23 : decode cX2_copies 23 = .ok (.goto 13, 3) := by decide +kernel
theorem dX2_copies_26 : decode cX2_copies 26 = .ok (.aload_n 0, 1) := by decide +kernel
theorem dX2_copies_27 : decode cX2_copies 27 = .ok (.getfield 23, 3) := by decide +kernel
theorem dX2_copies_30 : decode cX2_copies 30 = .ok (.iload_n 2, 1) := by decide +kernel
theorem dX2_copies_31 : decode cX2_copies 31 = .ok (.iload_n 3, 1) := by decide +kernel
theorem dX2_copies_32 : decode cX2_copies 32 = .ok (.invokestatic 105, 3) := by decide +kernel
theorem dX2_copies_35 : decode cX2_copies 35 = .ok (.laload, 1) := by decide +kernel
theorem dX2_copies_36 : decode cX2_copies 36 = .ok (.lastore, 1) := by decide +kernel
theorem dX2_copies_37 : decode cX2_copies 37 = .ok (.aload_n 0, 1) := by decide +kernel
theorem dX2_copies_38 : decode cX2_copies 38 = .ok (.getfield 27, 3) := by decide +kernel
theorem dX2_copies_41 : decode cX2_copies 41 = .ok (.iload_n 1, 1) := by decide +kernel
theorem dX2_copies_42 : decode cX2_copies 42 = .ok (.iload_n 3, 1) := by decide +kernel
theorem dX2_copies_43 : decode cX2_copies 43 = .ok (.invokestatic 105, 3) := by decide +kernel
theorem dX2_copies_46 : decode cX2_copies 46 = .ok (.iload_n 2, 1) := by decide +kernel
theorem dX2_copies_47 : decode cX2_copies 47 = .ok (.ifCond .ge 7, 3) := by decide +kernel
theorem dX2_copies_50 : decode cX2_copies 50 = .ok (.iconst 0, 1) := by decide +kernel
theorem dX2_copies_51 : decode cX2_copies 51 = .ok (.goto 13, 3) := by decide +kernel
theorem dX2_copies_54 : decode cX2_copies 54 = .ok (.aload_n 0, 1) := by decide +kernel
theorem dX2_copies_55 : decode cX2_copies 55 = .ok (.getfield 27, 3) := by decide +kernel
theorem dX2_copies_58 : decode cX2_copies 58 = .ok (.iload_n 2, 1) := by decide +kernel
theorem dX2_copies_59 : decode cX2_copies 59 = .ok (.iload_n 3, 1) := by decide +kernel
theorem dX2_copies_60 : decode cX2_copies 60 = .ok (.invokestatic 105, 3) := by decide +kernel
theorem dX2_copies_63 : decode cX2_copies 63 = .ok (.iaload, 1) := by decide +kernel
theorem dX2_copies_64 : decode cX2_copies 64 = .ok (.iastore, 1) := by decide +kernel
theorem dX2_copies_65 : decode cX2_copies 65 = .ok (.iinc 3 1, 3) := by decide +kernel
theorem dX2_copies_68 : decode cX2_copies 68 = .ok (.goto (-65), 3) := by decide +kernel
theorem dX2_copies_71 : decode cX2_copies 71 = .ok (.return_, 1) := by decide +kernel
theorem dX2_puts_0 : decode cX2_puts 0 = .ok (.iload_n 2, 1) := by decide +kernel
theorem dX2_puts_1 : decode cX2_puts 1 = .ok (.i2l, 1) := by decide +kernel
theorem dX2_puts_2 : decode cX2_puts 2 = .ok (.ldc2_w 108, 3) := by decide +kernel
theorem dX2_puts_5 : decode cX2_puts 5 = .ok (.ldc2_w 110, 3) := by decide +kernel
theorem dX2_puts_8 : decode cX2_puts 8 = .ok (.invokestatic 32, 3) := by decide +kernel
theorem dX2_puts_11 : decode cX2_puts 11 = .ok (.ifCond .ne 5, 3) := by decide +kernel
theorem dX2_puts_14 : decode cX2_puts 14 = .ok (.iconst 0, 1) := by decide +kernel
theorem dX2_puts_15 : decode cX2_puts 15 = .ok (.ireturn, 1) := by decide +kernel
theorem dX2_puts_16 : decode cX2_puts 16 = .ok (.iload_n 1, 1) := by decide +kernel
theorem dX2_puts_17 : decode cX2_puts 17 = .ok (.iload_n 2, 1) := by decide +kernel
theorem dX2_puts_18 : decode cX2_puts 18 = .ok (.invokestatic 105, 3) := by decide +kernel
theorem dX2_puts_21 : decode cX2_puts 21 = .ok (.istore 6, 2) := by decide +kernel
theorem dX2_puts_23 : decode cX2_puts 23 = .ok (.aload_n 0, 1) := by decide +kernel
theorem dX2_puts_24 : decode cX2_puts 24 = .ok (.getfield 27, 3) := by decide +kernel
theorem dX2_puts_27 : decode cX2_puts 27 = .ok (.iload 6, 2) := by decide +kernel
theorem dX2_puts_29 : decode cX2_puts 29 = .ok (.iaload, 1) := by decide +kernel
theorem dX2_puts_30 : decode cX2_puts 30 = .ok (.iload 5, 2) := by decide +kernel
theorem dX2_puts_32 : decode cX2_puts 32 = .ok (.if_icmp .le 13, 3) := by decide +kernel
theorem dX2_puts_35 : decode cX2_puts 35 = .ok (.aload_n 0, 1) := by decide +kernel
theorem dX2_puts_36 : decode cX2_puts 36 = .ok (.getfield 27, 3) := by decide +kernel
theorem dX2_puts_39 : decode cX2_puts 39 = .ok (.iload 6, 2) := by decide +kernel
theorem dX2_puts_41 : decode cX2_puts 41 = .ok (.iaload, 1) := by decide +kernel
theorem dX2_puts_42 : decode cX2_puts 42 = .ok (.goto 5, 3) := by decide +kernel
theorem dX2_puts_45 : decode cX2_puts 45 = .ok (.iload 5, 2) := by decide +kernel
theorem dX2_puts_47 : decode cX2_puts 47 = .ok (.istore 7, 2) := by decide +kernel
theorem dX2_puts_49 : decode cX2_puts 49 = .ok (.aload_n 0, 1) := by decide +kernel
theorem dX2_puts_50 : decode cX2_puts 50 = .ok (.aload_n 0, 1) := by decide +kernel
theorem dX2_puts_51 : decode cX2_puts 51 = .ok (.getfield 23, 3) := by decide +kernel
theorem dX2_puts_54 : decode cX2_puts 54 = .ok (.iload 6, 2) := by decide +kernel
theorem dX2_puts_56 : decode cX2_puts 56 = .ok (.laload, 1) := by decide +kernel
theorem dX2_puts_57 : decode cX2_puts 57 = .ok (.iload 7, 2) := by decide +kernel
theorem dX2_puts_59 : decode cX2_puts 59 = .ok (.aload_n 0, 1) := by decide +kernel
theorem dX2_puts_60 : decode cX2_puts 60 = .ok (.getfield 27, 3) := by decide +kernel
theorem dX2_puts_63 : decode cX2_puts 63 = .ok (.iload 6, 2) := by decide +kernel
theorem dX2_puts_65 : decode cX2_puts 65 = .ok (.iaload, 1) := by decide +kernel
theorem dX2_puts_66 : decode cX2_puts 66 = .ok (.isub, 1) := by decide +kernel
theorem dX2_puts_67 : decode cX2_puts 67 = .ok (.lshl, 1) := by decide +kernel
theorem dX2_puts_68 : decode cX2_puts 68 = .ok (.lload_n 3, 1) := by decide +kernel
theorem dX2_puts_69 : decode cX2_puts 69 = .ok (.iload 7, 2) := by decide +kernel
theorem dX2_puts_71 : decode cX2_puts 71 = .ok (.iload 5, 2) := by decide +kernel
theorem dX2_puts_73 : decode cX2_puts 73 = .ok (.isub, 1) := by decide +kernel
theorem dX2_puts_74 : decode cX2_puts 74 = .ok (.lshl, 1) := by decide +kernel
theorem dX2_puts_75 : decode cX2_puts 75 = .ok (.ladd, 1) := by decide +kernel
theorem dX2_puts_76 : decode cX2_puts 76 = .ok (.iload 7, 2) := by decide +kernel
theorem dX2_puts_78 : decode cX2_puts 78 = .ok (.invokevirtual 112, 3) := by decide +kernel
theorem dX2_puts_81 : decode cX2_puts 81 = .ok (.istore 8, 2) := by decide +kernel
theorem dX2_puts_83 : decode cX2_puts 83 = .ok (.iload 8, 2) := by decide +kernel
theorem dX2_puts_85 : decode cX2_puts 85 = .ok (.ifCond .eq 38, 3) := by decide +kernel
theorem dX2_puts_88 : decode cX2_puts 88 = .ok (.aload_n 0, 1) := by decide +kernel
theorem dX2_puts_89 : decode cX2_puts 89 = .ok (.getfield 23, 3) := by decide +kernel
theorem dX2_puts_92 : decode cX2_puts 92 = .ok (.iload 6, 2) := by decide +kernel
theorem dX2_puts_94 : decode cX2_puts 94 = .ok (.aload_n 0, 1) := by decide +kernel
theorem dX2_puts_95 : decode cX2_puts 95 = .ok (.getfield 96, 3) := by decide +kernel
theorem dX2_puts_98 : decode cX2_puts 98 = .ok (.lastore, 1) := by decide +kernel
theorem dX2_puts_99 : decode cX2_puts 99 = .ok (.aload_n 0, 1) := by decide +kernel
theorem dX2_puts_100 : decode cX2_puts 100 = .ok (.getfield 27, 3) := by decide +kernel
theorem dX2_puts_103 : decode cX2_puts 103 = .ok (.iload 6, 2) := by decide +kernel
theorem dX2_puts_105 : decode cX2_puts 105 = .ok (.aload_n 0, 1) := by decide +kernel
theorem dX2_puts_106 : decode cX2_puts 106 = .ok (.getfield 96, 3) := by decide +kernel
theorem dX2_puts_109 : decode cX2_puts 109 = .ok (.lconst 0, 1) := by decide +kernel
theorem dX2_puts_110 : decode cX2_puts 110 = .ok (.lcmp, 1) := by decide +kernel
theorem dX2_puts_111 : decode cX2_puts 111 = .ok (.ifCond .ne 7, 3) := by decide +kernel
theorem dX2_puts_114 : decode cX2_puts 114 = .ok (.iconst 0, 1) := by decide +kernel
theorem dX2_puts_115 : decode cX2_puts 115 = .ok (.goto 7, 3) := by decide +kernel
theorem dX2_puts_118 : decode cX2_puts 118 = .ok (.aload_n 0, 1) := by decide +kernel
theorem dX2_puts_119 : decode cX2_puts 119 = .ok (.getfield 100, 3) := by decide +kernel
theorem dX2_puts_122 : decode cX2_puts 122 = .ok (.iastore, 1) := by decide +kernel
theorem dX2_puts_123 : decode cX2_puts 123 = .ok (.iload 8, 2) := by decide +kernel
theorem dX2_puts_125 : decode cX2_puts 125 = .ok (.ireturn, 1) := by decide +kernel
theorem dX2_multiplies_0 : decode cX2_multiplies 0 = .ok (.iload_n 2, 1) := by decide +kernel
theorem dX2_multiplies_1 : decode cX2_multiplies 1 = .ok (.i2l, 1) := by decide +kernel
theorem dX2_multiplies_2 : decode cX2_multiplies 2 = .ok (.ldc2_w 108, 3) := by decide +kernel
theorem dX2_multiplies_5 : decode cX2_multiplies 5 = .ok (.ldc2_w 110, 3) := by decide +kernel
theorem dX2_multiplies_8 : decode cX2_multiplies 8 = .ok (.invokestatic 32, 3) := by decide +kernel
theorem dX2_multiplies_11 : decode cX2_multiplies 11 = .ok (.ifCond .eq 19, 3) := by decide +kernel
theorem dX2_multiplies_14 : decode cX2_multiplies 14 = .ok (.aload_n 0, 1) := by decide +kernel
theorem dX2_multiplies_15 : decode cX2_multiplies 15 = .ok (.lload_n 3, 1) := by decide +kernel
theorem dX2_multiplies_16 : decode cX2_multiplies 16 = .ok (.lload 6, 2) := by decide +kernel
theorem dX2_multiplies_18 : decode cX2_multiplies 18 = .ok (.lmul, 1) := by decide +kernel
theorem dX2_multiplies_19 : decode cX2_multiplies 19 = .ok (.iload 5, 2) := by decide +kernel
theorem dX2_multiplies_21 : decode cX2_multiplies 21 = .ok (.iload 8, 2) := by decide +kernel
theorem dX2_multiplies_23 : decode cX2_multiplies 23 = .ok (.iadd, 1) := by decide +kernel
theorem dX2_multiplies_24 : decode cX2_multiplies 24 = .ok (.invokevirtual 112, 3) := by decide +kernel
theorem dX2_multiplies_27 : decode cX2_multiplies 27 = .ok (.ifCond .ne 5, 3) := by decide +kernel
theorem dX2_multiplies_30 : decode cX2_multiplies 30 = .ok (.iconst 0, 1) := by decide +kernel
theorem dX2_multiplies_31 : decode cX2_multiplies 31 = .ok (.ireturn, 1) := by decide +kernel
theorem dX2_multiplies_32 : decode cX2_multiplies 32 = .ok (.aload_n 0, 1) := by decide +kernel
theorem dX2_multiplies_33 : decode cX2_multiplies 33 = .ok (.iload_n 1, 1) := by decide +kernel
theorem dX2_multiplies_34 : decode cX2_multiplies 34 = .ok (.iload_n 2, 1) := by decide +kernel
theorem dX2_multiplies_35 : decode cX2_multiplies 35 = .ok (.lload 9, 2) := by decide +kernel
theorem dX2_multiplies_37 : decode cX2_multiplies 37 = .ok (.aload_n 0, 1) := by decide +kernel
theorem dX2_multiplies_38 : decode cX2_multiplies 38 = .ok (.getfield 96, 3) := by decide +kernel
theorem dX2_multiplies_41 : decode cX2_multiplies 41 = .ok (.lmul, 1) := by decide +kernel
theorem dX2_multiplies_42 : decode cX2_multiplies 42 = .ok (.aload_n 0, 1) := by decide +kernel
theorem dX2_multiplies_43 : decode cX2_multiplies 43 = .ok (.getfield 100, 3) := by decide +kernel
theorem dX2_multiplies_46 : decode cX2_multiplies 46 = .ok (.invokevirtual 115, 3) := by decide +kernel
theorem dX2_multiplies_49 : decode cX2_multiplies 49 = .ok (.ireturn, 1) := by decide +kernel
theorem dX2_term_0 : decode cX2_term 0 = .ok (.iload_n 1, 1) := by decide +kernel
theorem dX2_term_1 : decode cX2_term 1 = .ok (.invokestatic 119, 3) := by decide +kernel
theorem dX2_term_4 : decode cX2_term 4 = .ok (.ifCond .eq 44, 3) := by decide +kernel
theorem dX2_term_7 : decode cX2_term 7 = .ok (.iload_n 2, 1) := by decide +kernel
theorem dX2_term_8 : decode cX2_term 8 = .ok (.i2l, 1) := by decide +kernel
theorem dX2_term_9 : decode cX2_term 9 = .ok (.ldc2_w 108, 3) := by decide +kernel
theorem dX2_term_12 : decode cX2_term 12 = .ok (.ldc2_w 110, 3) := by decide +kernel
theorem dX2_term_15 : decode cX2_term 15 = .ok (.invokestatic 32, 3) := by decide +kernel
theorem dX2_term_18 : decode cX2_term 18 = .ok (.ifCond .eq 30, 3) := by decide +kernel
theorem dX2_term_21 : decode cX2_term 21 = .ok (.iload_n 3, 1) := by decide +kernel
theorem dX2_term_22 : decode cX2_term 22 = .ok (.i2l, 1) := by decide +kernel
theorem dX2_term_23 : decode cX2_term 23 = .ok (.ldc2_w 58, 3) := by decide +kernel
theorem dX2_term_26 : decode cX2_term 26 = .ok (.ldc2_w 60, 3) := by decide +kernel
theorem dX2_term_29 : decode cX2_term 29 = .ok (.invokestatic 32, 3) := by decide +kernel
theorem dX2_term_32 : decode cX2_term 32 = .ok (.ifCond .eq 16, 3) := by decide +kernel
theorem dX2_term_35 : decode cX2_term 35 = .ok (.iload 4, 2) := by decide +kernel
theorem dX2_term_37 : decode cX2_term 37 = .ok (.i2l, 1) := by decide +kernel
theorem dX2_term_38 : decode cX2_term 38 = .ok (.lconst 0, 1) := by decide +kernel
theorem dX2_term_39 : decode cX2_term 39 = .ok (.ldc2_w 62, 3) := by decide +kernel
theorem dX2_term_42 : decode cX2_term 42 = .ok (.invokestatic 32, 3) := by decide +kernel
theorem dX2_term_45 : decode cX2_term 45 = .ok (.ifCond .ne 5, 3) := by decide +kernel
theorem dX2_term_48 : decode cX2_term 48 = .ok (.iconst (-1), 1) := by decide +kernel
theorem dX2_term_49 : decode cX2_term 49 = .ok (.ireturn, 1) := by decide +kernel
theorem dX2_term_50 : decode cX2_term 50 = .ok (.aload_n 0, 1) := by decide +kernel
theorem dX2_term_51 : decode cX2_term 51 = .ok (.iload_n 3, 1) := by decide +kernel
theorem dX2_term_52 : decode cX2_term 52 = .ok (.i2l, 1) := by decide +kernel
theorem dX2_term_53 : decode cX2_term 53 = .ok (.iload 4, 2) := by decide +kernel
theorem dX2_term_55 : decode cX2_term 55 = .ok (.invokevirtual 112, 3) := by decide +kernel
theorem dX2_term_58 : decode cX2_term 58 = .ok (.istore 5, 2) := by decide +kernel
theorem dX2_term_60 : decode cX2_term 60 = .ok (.aload_n 0, 1) := by decide +kernel
theorem dX2_term_61 : decode cX2_term 61 = .ok (.getfield 23, 3) := by decide +kernel
theorem dX2_term_64 : decode cX2_term 64 = .ok (.iload_n 1, 1) := by decide +kernel
theorem dX2_term_65 : decode cX2_term 65 = .ok (.iload_n 2, 1) := by decide +kernel
theorem dX2_term_66 : decode cX2_term 66 = .ok (.invokestatic 105, 3) := by decide +kernel
theorem dX2_term_69 : decode cX2_term 69 = .ok (.aload_n 0, 1) := by decide +kernel
theorem dX2_term_70 : decode cX2_term 70 = .ok (.getfield 96, 3) := by decide +kernel
theorem dX2_term_73 : decode cX2_term 73 = .ok (.lastore, 1) := by decide +kernel
theorem dX2_term_74 : decode cX2_term 74 = .ok (.aload_n 0, 1) := by decide +kernel
theorem dX2_term_75 : decode cX2_term 75 = .ok (.getfield 27, 3) := by decide +kernel
theorem dX2_term_78 : decode cX2_term 78 = .ok (.iload_n 1, 1) := by decide +kernel
theorem dX2_term_79 : decode cX2_term 79 = .ok (.iload_n 2, 1) := by decide +kernel
theorem dX2_term_80 : decode cX2_term 80 = .ok (.invokestatic 105, 3) := by decide +kernel
theorem dX2_term_83 : decode cX2_term 83 = .ok (.aload_n 0, 1) := by decide +kernel
theorem dX2_term_84 : decode cX2_term 84 = .ok (.getfield 96, 3) := by decide +kernel
theorem dX2_term_87 : decode cX2_term 87 = .ok (.lconst 0, 1) := by decide +kernel
theorem dX2_term_88 : decode cX2_term 88 = .ok (.lcmp, 1) := by decide +kernel
theorem dX2_term_89 : decode cX2_term 89 = .ok (.ifCond .ne 7, 3) := by decide +kernel
theorem dX2_term_92 : decode cX2_term 92 = .ok (.iconst 0, 1) := by decide +kernel
theorem dX2_term_93 : decode cX2_term 93 = .ok (.goto 7, 3) := by decide +kernel
theorem dX2_term_96 : decode cX2_term 96 = .ok (.aload_n 0, 1) := by decide +kernel
theorem dX2_term_97 : decode cX2_term 97 = .ok (.getfield 100, 3) := by decide +kernel
theorem dX2_term_100 : decode cX2_term 100 = .ok (.iastore, 1) := by decide +kernel
theorem dX2_term_101 : decode cX2_term 101 = .ok (.aload_n 0, 1) := by decide +kernel
theorem dX2_term_102 : decode cX2_term 102 = .ok (.iload_n 1, 1) := by decide +kernel
theorem dX2_term_103 : decode cX2_term 103 = .ok (.invokevirtual 122, 3) := by decide +kernel
theorem dX2_term_106 : decode cX2_term 106 = .ok (.ireturn, 1) := by decide +kernel
theorem dX2_told_0 : decode cX2_told 0 = .ok (.iload_n 1, 1) := by decide +kernel
theorem dX2_told_1 : decode cX2_told 1 = .ok (.invokestatic 119, 3) := by decide +kernel
theorem dX2_told_4 : decode cX2_told 4 = .ok (.ifCond .eq 19, 3) := by decide +kernel
theorem dX2_told_7 : decode cX2_told 7 = .ok (.iload_n 2, 1) := by decide +kernel
theorem dX2_told_8 : decode cX2_told 8 = .ok (.ifCond .lt 15, 3) := by decide +kernel
theorem dX2_told_11 : decode cX2_told 11 = .ok (.iload_n 3, 1) := by decide +kernel
theorem dX2_told_12 : decode cX2_told 12 = .ok (.i2l, 1) := by decide +kernel
theorem dX2_told_13 : decode cX2_told 13 = .ok (.lconst 0, 1) := by decide +kernel
theorem dX2_told_14 : decode cX2_told 14 = .ok (.ldc2_w 38, 3) := by decide +kernel
theorem dX2_told_17 : decode cX2_told 17 = .ok (.invokestatic 32, 3) := by decide +kernel
theorem dX2_told_20 : decode cX2_told 20 = .ok (.ifCond .ne 6, 3) := by decide +kernel
theorem dX2_told_23 : decode cX2_told 23 = .ok (.ldc 126, 2) := by decide +kernel
theorem dX2_told_25 : decode cX2_told 25 = .ok (.ireturn, 1) := by decide +kernel
theorem dX2_told_26 : decode cX2_told 26 = .ok (.iload_n 2, 1) := by decide +kernel
theorem dX2_told_27 : decode cX2_told 27 = .ok (.istore 4, 2) := by decide +kernel
theorem dX2_told_29 : decode cX2_told 29 = .ok (.bipush 6, 2) := by decide +kernel
theorem dX2_told_31 : decode cX2_told 31 = .ok (.istore 5, 2) := by decide +kernel
theorem dX2_told_33 : decode cX2_told 33 = .ok (.iload 5, 2) := by decide +kernel
theorem dX2_told_35 : decode cX2_told 35 = .ok (.bipush (-6), 2) := by decide +kernel
theorem dX2_told_37 : decode cX2_told 37 = .ok (.if_icmp .lt 70, 3) := by decide +kernel
theorem dX2_told_40 : decode cX2_told 40 = .ok (.iload_n 1, 1) := by decide +kernel
theorem dX2_told_41 : decode cX2_told 41 = .ok (.iload 5, 2) := by decide +kernel
theorem dX2_told_43 : decode cX2_told 43 = .ok (.invokestatic 105, 3) := by decide +kernel
theorem dX2_told_46 : decode cX2_told 46 = .ok (.istore 6, 2) := by decide +kernel
theorem dX2_told_48 : decode cX2_told 48 = .ok (.aload_n 0, 1) := by decide +kernel
theorem dX2_told_49 : decode cX2_told 49 = .ok (.getfield 23, 3) := by decide +kernel
theorem dX2_told_52 : decode cX2_told 52 = .ok (.iload 6, 2) := by decide +kernel
theorem dX2_told_54 : decode cX2_told 54 = .ok (.laload, 1) := by decide +kernel
theorem dX2_told_55 : decode cX2_told 55 = .ok (.lconst 0, 1) := by decide +kernel
theorem dX2_told_56 : decode cX2_told 56 = .ok (.lcmp, 1) := by decide +kernel
theorem dX2_told_57 : decode cX2_told 57 = .ok (.ifCond .eq 44, 3) := by decide +kernel
theorem dX2_told_60 : decode cX2_told 60 = .ok (.iload 4, 2) := by decide +kernel
theorem dX2_told_62 : decode cX2_told 62 = .ok (.ifCond .ne 36, 3) := by decide +kernel
theorem dX2_told_65 : decode cX2_told 65 = .ok (.iload_n 3, 1) := by decide +kernel
theorem dX2_told_66 : decode cX2_told 66 = .ok (.ifCond .ne 8, 3) := by decide +kernel
theorem dX2_told_69 : decode cX2_told 69 = .ok (.iload 5, 2) := by decide +kernel
theorem dX2_told_71 : decode cX2_told 71 = .ok (.goto 26, 3) := by decide +kernel
theorem dX2_told_74 : decode cX2_told 74 = .ok (.iload_n 3, 1) := by decide +kernel
theorem dX2_told_75 : decode cX2_told 75 = .ok (.iconst 1, 1) := by decide +kernel
theorem dX2_told_76 : decode cX2_told 76 = .ok (.if_icmp .ne 14, 3) := by decide +kernel
theorem dX2_told_79 : decode cX2_told 79 = .ok (.aload_n 0, 1) := by decide +kernel
theorem dX2_told_80 : decode cX2_told 80 = .ok (.getfield 23, 3) := by decide +kernel
theorem dX2_told_83 : decode cX2_told 83 = .ok (.iload 6, 2) := by decide +kernel
theorem dX2_told_85 : decode cX2_told 85 = .ok (.laload, 1) := by decide +kernel
theorem dX2_told_86 : decode cX2_told 86 = .ok (.l2i, 1) := by decide +kernel
theorem dX2_told_87 : decode cX2_told 87 = .ok (.goto 10, 3) := by decide +kernel
theorem dX2_told_90 : decode cX2_told 90 = .ok (.aload_n 0, 1) := by decide +kernel
theorem dX2_told_91 : decode cX2_told 91 = .ok (.getfield 27, 3) := by decide +kernel
theorem dX2_told_94 : decode cX2_told 94 = .ok (.iload 6, 2) := by decide +kernel
theorem dX2_told_96 : decode cX2_told 96 = .ok (.iaload, 1) := by decide +kernel
theorem dX2_told_97 : decode cX2_told 97 = .ok (.ireturn, 1) := by decide +kernel
theorem dX2_told_98 : decode cX2_told 98 = .ok (.iinc 4 (-1), 3) := by decide +kernel
theorem dX2_told_101 : decode cX2_told 101 = .ok (.iinc 5 (-1), 3) := by decide +kernel
theorem dX2_told_104 : decode cX2_told 104 = .ok (.goto (-71), 3) := by decide +kernel
theorem dX2_told_107 : decode cX2_told 107 = .ok (.ldc 127, 2) := by decide +kernel
theorem dX2_told_109 : decode cX2_told 109 = .ok (.ireturn, 1) := by decide +kernel
theorem dX2_adds_0 : decode cX2_adds 0 = .ok (.aload_n 0, 1) := by decide +kernel
theorem dX2_adds_1 : decode cX2_adds 1 = .ok (.bipush 9, 2) := by decide +kernel
theorem dX2_adds_3 : decode cX2_adds 3 = .ok (.iload_n 1, 1) := by decide +kernel
theorem dX2_adds_4 : decode cX2_adds 4 = .ok (.invokevirtual 128, 3) := by decide +kernel
theorem dX2_adds_7 : decode cX2_adds 7 = .ok (.iconst 1, 1) := by decide +kernel
theorem dX2_adds_8 : decode cX2_adds 8 = .ok (.istore 5, 2) := by decide +kernel
theorem dX2_adds_10 : decode cX2_adds 10 = .ok (.bipush 6, 2) := by decide +kernel
theorem dX2_adds_12 : decode cX2_adds 12 = .ok (.istore 6, 2) := by decide +kernel
theorem dX2_adds_14 : decode cX2_adds 14 = .ok (.iload 6, 2) := by decide +kernel
theorem dX2_adds_16 : decode cX2_adds 16 = .ok (.bipush (-6), 2) := by decide +kernel
theorem dX2_adds_18 : decode cX2_adds 18 = .ok (.if_icmp .lt 68, 3) := by decide +kernel
theorem dX2_adds_21 : decode cX2_adds 21 = .ok (.iload 5, 2) := by decide +kernel
theorem dX2_adds_23 : decode cX2_adds 23 = .ok (.ifCond .eq 63, 3) := by decide +kernel
theorem dX2_adds_26 : decode cX2_adds 26 = .ok (.iload_n 2, 1) := by decide +kernel
theorem dX2_adds_27 : decode cX2_adds 27 = .ok (.iload 6, 2) := by decide +kernel
theorem dX2_adds_29 : decode cX2_adds 29 = .ok (.invokestatic 105, 3) := by decide +kernel
theorem dX2_adds_32 : decode cX2_adds 32 = .ok (.istore 7, 2) := by decide +kernel
theorem dX2_adds_34 : decode cX2_adds 34 = .ok (.aload_n 0, 1) := by decide +kernel
theorem dX2_adds_35 : decode cX2_adds 35 = .ok (.getfield 23, 3) := by decide +kernel
theorem dX2_adds_38 : decode cX2_adds 38 = .ok (.iload 7, 2) := by decide +kernel
theorem dX2_adds_40 : decode cX2_adds 40 = .ok (.laload, 1) := by decide +kernel
theorem dX2_adds_41 : decode cX2_adds 41 = .ok (.lconst 0, 1) := by decide +kernel
theorem dX2_adds_42 : decode cX2_adds 42 = .ok (.lcmp, 1) := by decide +kernel
theorem dX2_adds_43 : decode cX2_adds 43 = .ok (.ifCond .eq 30, 3) := by decide +kernel
theorem dX2_adds_46 : decode cX2_adds 46 = .ok (.aload_n 0, 1) := by decide +kernel
theorem dX2_adds_47 : decode cX2_adds 47 = .ok (.bipush 9, 2) := by decide +kernel
theorem dX2_adds_49 : decode cX2_adds 49 = .ok (.iload 6, 2) := by decide +kernel
theorem dX2_adds_51 : decode cX2_adds 51 = .ok (.lload_n 3, 1) := by decide +kernel
theorem dX2_adds_52 : decode cX2_adds 52 = .ok (.aload_n 0, 1) := by decide +kernel
theorem dX2_adds_53 : decode cX2_adds 53 = .ok (.getfield 23, 3) := by decide +kernel
theorem dX2_adds_56 : decode cX2_adds 56 = .ok (.iload 7, 2) := by decide +kernel
theorem dX2_adds_58 : decode cX2_adds 58 = .ok (.laload, 1) := by decide +kernel
theorem dX2_adds_59 : decode cX2_adds 59 = .ok (.lmul, 1) := by decide +kernel
theorem dX2_adds_60 : decode cX2_adds 60 = .ok (.aload_n 0, 1) := by decide +kernel
theorem dX2_adds_61 : decode cX2_adds 61 = .ok (.getfield 27, 3) := by decide +kernel
theorem dX2_adds_64 : decode cX2_adds 64 = .ok (.iload 7, 2) := by decide +kernel
theorem dX2_adds_66 : decode cX2_adds 66 = .ok (.iaload, 1) := by decide +kernel
theorem dX2_adds_67 : decode cX2_adds 67 = .ok (.invokevirtual 115, 3) := by decide +kernel
theorem dX2_adds_70 : decode cX2_adds 70 = .ok (.ifCond .eq 7, 3) := by decide +kernel
theorem dX2_adds_73 : decode cX2_adds 73 = .ok (.iconst 1, 1) := by decide +kernel
theorem dX2_adds_74 : decode cX2_adds 74 = .ok (.goto 4, 3) := by decide +kernel
theorem dX2_adds_77 : decode cX2_adds 77 = .ok (.iconst 0, 1) := by decide +kernel
theorem dX2_adds_78 : decode cX2_adds 78 = .ok (.istore 5, 2) := by decide +kernel
theorem dX2_adds_80 : decode cX2_adds 80 = .ok (.iinc 6 (-1), 3) := by decide +kernel
theorem dX2_adds_83 : decode cX2_adds 83 = .ok (.goto (-69), 3) := by decide +kernel
theorem dX2_adds_86 : decode cX2_adds 86 = .ok (.iload 5, 2) := by decide +kernel
theorem dX2_adds_88 : decode cX2_adds 88 = .ok (.ireturn, 1) := by decide +kernel
theorem dX2_products_0 : decode cX2_products 0 = .ok (.aload_n 0, 1) := by decide +kernel
theorem dX2_products_1 : decode cX2_products 1 = .ok (.bipush 9, 2) := by decide +kernel
theorem dX2_products_3 : decode cX2_products 3 = .ok (.iconst (-1), 1) := by decide +kernel
theorem dX2_products_4 : decode cX2_products 4 = .ok (.invokevirtual 128, 3) := by decide +kernel
theorem dX2_products_7 : decode cX2_products 7 = .ok (.iconst 1, 1) := by decide +kernel
theorem dX2_products_8 : decode cX2_products 8 = .ok (.istore_n 3, 1) := by decide +kernel
theorem dX2_products_9 : decode cX2_products 9 = .ok (.bipush 6, 2) := by decide +kernel
theorem dX2_products_11 : decode cX2_products 11 = .ok (.istore 4, 2) := by decide +kernel
theorem dX2_products_13 : decode cX2_products 13 = .ok (.iload 4, 2) := by decide +kernel
theorem dX2_products_15 : decode cX2_products 15 = .ok (.bipush (-6), 2) := by decide +kernel
theorem dX2_products_17 : decode cX2_products 17 = .ok (.if_icmp .lt 123, 3) := by decide +kernel
theorem dX2_products_20 : decode cX2_products 20 = .ok (.bipush 6, 2) := by decide +kernel
theorem dX2_products_22 : decode cX2_products 22 = .ok (.istore 5, 2) := by decide +kernel
theorem dX2_products_24 : decode cX2_products 24 = .ok (.iload 5, 2) := by decide +kernel
theorem dX2_products_26 : decode cX2_products 26 = .ok (.bipush (-6), 2) := by decide +kernel
theorem dX2_products_28 : decode cX2_products 28 = .ok (.if_icmp .lt 106, 3) := by decide +kernel
theorem dX2_products_31 : decode cX2_products 31 = .ok (.aload_n 0, 1) := by decide +kernel
theorem dX2_products_32 : decode cX2_products 32 = .ok (.getfield 23, 3) := by decide +kernel
theorem dX2_products_35 : decode cX2_products 35 = .ok (.iload_n 1, 1) := by decide +kernel
theorem dX2_products_36 : decode cX2_products 36 = .ok (.iload 4, 2) := by decide +kernel
theorem dX2_products_38 : decode cX2_products 38 = .ok (.invokestatic 105, 3) := by decide +kernel
theorem dX2_products_41 : decode cX2_products 41 = .ok (.laload, 1) := by decide +kernel
theorem dX2_products_42 : decode cX2_products 42 = .ok (.lconst 0, 1) := by decide +kernel
theorem dX2_products_43 : decode cX2_products 43 = .ok (.lcmp, 1) := by decide +kernel
theorem dX2_products_44 : decode cX2_products 44 = .ok (.ifCond .eq 90, 3) := by decide +kernel
theorem dX2_products_47 : decode cX2_products 47 = .ok (.iload_n 1, 1) := by decide +kernel
theorem dX2_products_48 : decode cX2_products 48 = .ok (.iload 4, 2) := by decide +kernel
theorem dX2_products_50 : decode cX2_products 50 = .ok (.invokestatic 105, 3) := by decide +kernel
theorem dX2_products_53 : decode cX2_products 53 = .ok (.istore 6, 2) := by decide +kernel
theorem dX2_products_55 : decode cX2_products 55 = .ok (.iload_n 2, 1) := by decide +kernel
theorem dX2_products_56 : decode cX2_products 56 = .ok (.iload 5, 2) := by decide +kernel
theorem dX2_products_58 : decode cX2_products 58 = .ok (.invokestatic 105, 3) := by decide +kernel
theorem dX2_products_61 : decode cX2_products 61 = .ok (.istore 7, 2) := by decide +kernel
theorem dX2_products_63 : decode cX2_products 63 = .ok (.iload_n 3, 1) := by decide +kernel
theorem dX2_products_64 : decode cX2_products 64 = .ok (.ifCond .eq 62, 3) := by decide +kernel
theorem dX2_products_67 : decode cX2_products 67 = .ok (.aload_n 0, 1) := by decide +kernel
theorem dX2_products_68 : decode cX2_products 68 = .ok (.getfield 23, 3) := by decide +kernel
theorem dX2_products_71 : decode cX2_products 71 = .ok (.iload 7, 2) := by decide +kernel
theorem dX2_products_73 : decode cX2_products 73 = .ok (.laload, 1) := by decide +kernel
theorem dX2_products_74 : decode cX2_products 74 = .ok (.lconst 0, 1) := by decide +kernel
theorem dX2_products_75 : decode cX2_products 75 = .ok (.lcmp, 1) := by decide +kernel
theorem dX2_products_76 : decode cX2_products 76 = .ok (.ifCond .eq 46, 3) := by decide +kernel
theorem dX2_products_79 : decode cX2_products 79 = .ok (.aload_n 0, 1) := by decide +kernel
theorem dX2_products_80 : decode cX2_products 80 = .ok (.bipush 9, 2) := by decide +kernel
theorem dX2_products_82 : decode cX2_products 82 = .ok (.iload 4, 2) := by decide +kernel
theorem dX2_products_84 : decode cX2_products 84 = .ok (.iload 5, 2) := by decide +kernel
theorem dX2_products_86 : decode cX2_products 86 = .ok (.iadd, 1) := by decide +kernel
theorem dX2_products_87 : decode cX2_products 87 = .ok (.aload_n 0, 1) := by decide +kernel
theorem dX2_products_88 : decode cX2_products 88 = .ok (.getfield 23, 3) := by decide +kernel
theorem dX2_products_91 : decode cX2_products 91 = .ok (.iload 6, 2) := by decide +kernel
theorem dX2_products_93 : decode cX2_products 93 = .ok (.laload, 1) := by decide +kernel
theorem dX2_products_94 : decode cX2_products 94 = .ok (.aload_n 0, 1) := by decide +kernel
theorem dX2_products_95 : decode cX2_products 95 = .ok (.getfield 27, 3) := by decide +kernel
theorem dX2_products_98 : decode cX2_products 98 = .ok (.iload 6, 2) := by decide +kernel
theorem dX2_products_100 : decode cX2_products 100 = .ok (.iaload, 1) := by decide +kernel
theorem dX2_products_101 : decode cX2_products 101 = .ok (.aload_n 0, 1) := by decide +kernel
theorem dX2_products_102 : decode cX2_products 102 = .ok (.getfield 23, 3) := by decide +kernel
theorem dX2_products_105 : decode cX2_products 105 = .ok (.iload 7, 2) := by decide +kernel
theorem dX2_products_107 : decode cX2_products 107 = .ok (.laload, 1) := by decide +kernel
theorem dX2_products_108 : decode cX2_products 108 = .ok (.aload_n 0, 1) := by decide +kernel
theorem dX2_products_109 : decode cX2_products 109 = .ok (.getfield 27, 3) := by decide +kernel
theorem dX2_products_112 : decode cX2_products 112 = .ok (.iload 7, 2) := by decide +kernel
theorem dX2_products_114 : decode cX2_products 114 = .ok (.iaload, 1) := by decide +kernel
theorem dX2_products_115 : decode cX2_products 115 = .ok (.lconst 1, 1) := by decide +kernel
theorem dX2_products_116 : decode cX2_products 116 = .ok (.invokevirtual 132, 3) := by decide +kernel
theorem dX2_products_119 : decode cX2_products 119 = .ok (.ifCond .eq 7, 3) := by decide +kernel
theorem dX2_products_122 : decode cX2_products 122 = .ok (.iconst 1, 1) := by decide +kernel
theorem dX2_products_123 : decode cX2_products 123 = .ok (.goto 4, 3) := by decide +kernel
theorem dX2_products_126 : decode cX2_products 126 = .ok (.iconst 0, 1) := by decide +kernel
theorem dX2_products_127 : decode cX2_products 127 = .ok (.istore_n 3, 1) := by decide +kernel
theorem dX2_products_128 : decode cX2_products 128 = .ok (.iinc 5 (-1), 3) := by decide +kernel
theorem dX2_products_131 : decode cX2_products 131 = .ok (.goto (-107), 3) := by decide +kernel
theorem dX2_products_134 : decode cX2_products 134 = .ok (.iinc 4 (-1), 3) := by decide +kernel
theorem dX2_products_137 : decode cX2_products 137 = .ok (.goto (-124), 3) := by decide +kernel
theorem dX2_products_140 : decode cX2_products 140 = .ok (.iload_n 3, 1) := by decide +kernel
theorem dX2_products_141 : decode cX2_products 141 = .ok (.ireturn, 1) := by decide +kernel
theorem dX2_sum_0 : decode cX2_sum 0 = .ok (.iload_n 1, 1) := by decide +kernel
theorem dX2_sum_1 : decode cX2_sum 1 = .ok (.invokestatic 119, 3) := by decide +kernel
theorem dX2_sum_4 : decode cX2_sum 4 = .ok (.ifCond .eq 30, 3) := by decide +kernel
theorem dX2_sum_7 : decode cX2_sum 7 = .ok (.iload_n 2, 1) := by decide +kernel
theorem dX2_sum_8 : decode cX2_sum 8 = .ok (.i2l, 1) := by decide +kernel
theorem dX2_sum_9 : decode cX2_sum 9 = .ok (.lconst 0, 1) := by decide +kernel
theorem dX2_sum_10 : decode cX2_sum 10 = .ok (.ldc2_w 38, 3) := by decide +kernel
theorem dX2_sum_13 : decode cX2_sum 13 = .ok (.invokestatic 32, 3) := by decide +kernel
theorem dX2_sum_16 : decode cX2_sum 16 = .ok (.ifCond .eq 18, 3) := by decide +kernel
theorem dX2_sum_19 : decode cX2_sum 19 = .ok (.iload_n 3, 1) := by decide +kernel
theorem dX2_sum_20 : decode cX2_sum 20 = .ok (.invokestatic 119, 3) := by decide +kernel
theorem dX2_sum_23 : decode cX2_sum 23 = .ok (.ifCond .eq 11, 3) := by decide +kernel
theorem dX2_sum_26 : decode cX2_sum 26 = .ok (.iload 4, 2) := by decide +kernel
theorem dX2_sum_28 : decode cX2_sum 28 = .ok (.invokestatic 119, 3) := by decide +kernel
theorem dX2_sum_31 : decode cX2_sum 31 = .ok (.ifCond .ne 5, 3) := by decide +kernel
theorem dX2_sum_34 : decode cX2_sum 34 = .ok (.iconst (-1), 1) := by decide +kernel
theorem dX2_sum_35 : decode cX2_sum 35 = .ok (.ireturn, 1) := by decide +kernel
theorem dX2_sum_36 : decode cX2_sum 36 = .ok (.iload_n 2, 1) := by decide +kernel
theorem dX2_sum_37 : decode cX2_sum 37 = .ok (.iconst 2, 1) := by decide +kernel
theorem dX2_sum_38 : decode cX2_sum 38 = .ok (.if_icmp .ne 13, 3) := by decide +kernel
theorem dX2_sum_41 : decode cX2_sum 41 = .ok (.aload_n 0, 1) := by decide +kernel
theorem dX2_sum_42 : decode cX2_sum 42 = .ok (.iload_n 3, 1) := by decide +kernel
theorem dX2_sum_43 : decode cX2_sum 43 = .ok (.iload 4, 2) := by decide +kernel
theorem dX2_sum_45 : decode cX2_sum 45 = .ok (.invokevirtual 136, 3) := by decide +kernel
theorem dX2_sum_48 : decode cX2_sum 48 = .ok (.goto 21, 3) := by decide +kernel
theorem dX2_sum_51 : decode cX2_sum 51 = .ok (.aload_n 0, 1) := by decide +kernel
theorem dX2_sum_52 : decode cX2_sum 52 = .ok (.iload_n 3, 1) := by decide +kernel
theorem dX2_sum_53 : decode cX2_sum 53 = .ok (.iload 4, 2) := by decide +kernel
theorem dX2_sum_55 : decode cX2_sum 55 = .ok (.iload_n 2, 1) := by decide +kernel
theorem dX2_sum_56 : decode cX2_sum 56 = .ok (.ifCond .ne 7, 3) := by decide +kernel
theorem dX2_sum_59 : decode cX2_sum 59 = .ok (.lconst 1, 1) := by decide +kernel
theorem dX2_sum_60 : decode cX2_sum 60 = .ok (.goto 6, 3) := by decide +kernel
theorem dX2_sum_63 : decode cX2_sum 63 = .ok (.ldc2_w 140, 3) := by decide +kernel
theorem dX2_sum_66 : decode cX2_sum 66 = .ok (.invokevirtual 142, 3) := by decide +kernel
theorem dX2_sum_69 : decode cX2_sum 69 = .ok (.istore 5, 2) := by decide +kernel
theorem dX2_sum_71 : decode cX2_sum 71 = .ok (.iload 5, 2) := by decide +kernel
theorem dX2_sum_73 : decode cX2_sum 73 = .ok (.ifCond .ne 6, 3) := by decide +kernel
theorem dX2_sum_76 : decode cX2_sum 76 = .ok (.bipush (-5), 2) := by decide +kernel
theorem dX2_sum_78 : decode cX2_sum 78 = .ok (.ireturn, 1) := by decide +kernel
theorem dX2_sum_79 : decode cX2_sum 79 = .ok (.aload_n 0, 1) := by decide +kernel
theorem dX2_sum_80 : decode cX2_sum 80 = .ok (.iload_n 1, 1) := by decide +kernel
theorem dX2_sum_81 : decode cX2_sum 81 = .ok (.bipush 9, 2) := by decide +kernel
theorem dX2_sum_83 : decode cX2_sum 83 = .ok (.invokevirtual 128, 3) := by decide +kernel
theorem dX2_sum_86 : decode cX2_sum 86 = .ok (.aload_n 0, 1) := by decide +kernel
theorem dX2_sum_87 : decode cX2_sum 87 = .ok (.iload_n 1, 1) := by decide +kernel
theorem dX2_sum_88 : decode cX2_sum 88 = .ok (.invokevirtual 122, 3) := by decide +kernel
theorem dX2_sum_91 : decode cX2_sum 91 = .ok (.ireturn, 1) := by decide +kernel
theorem dX2_greatest_0 : decode cX2_greatest 0 = .ok (.bipush 6, 2) := by decide +kernel
theorem dX2_greatest_2 : decode cX2_greatest 2 = .ok (.istore_n 2, 1) := by decide +kernel
theorem dX2_greatest_3 : decode cX2_greatest 3 = .ok (.iload_n 2, 1) := by decide +kernel
theorem dX2_greatest_4 : decode cX2_greatest 4 = .ok (.bipush (-6), 2) := by decide +kernel
theorem dX2_greatest_6 : decode cX2_greatest 6 = .ok (.if_icmp .lt 24, 3) := by decide +kernel
theorem dX2_greatest_9 : decode cX2_greatest 9 = .ok (.aload_n 0, 1) := by decide +kernel
theorem dX2_greatest_10 : decode cX2_greatest 10 = .ok (.getfield 23, 3) := by decide +kernel
theorem dX2_greatest_13 : decode cX2_greatest 13 = .ok (.iload_n 1, 1) := by decide +kernel
theorem dX2_greatest_14 : decode cX2_greatest 14 = .ok (.iload_n 2, 1) := by decide +kernel
theorem dX2_greatest_15 : decode cX2_greatest 15 = .ok (.invokestatic 105, 3) := by decide +kernel
theorem dX2_greatest_18 : decode cX2_greatest 18 = .ok (.laload, 1) := by decide +kernel
theorem dX2_greatest_19 : decode cX2_greatest 19 = .ok (.lconst 0, 1) := by decide +kernel
theorem dX2_greatest_20 : decode cX2_greatest 20 = .ok (.lcmp, 1) := by decide +kernel
theorem dX2_greatest_21 : decode cX2_greatest 21 = .ok (.ifCond .ne 9, 3) := by decide +kernel
theorem dX2_greatest_24 : decode cX2_greatest 24 = .ok (.iinc 2 (-1), 3) := by decide +kernel
theorem dX2_greatest_27 : decode cX2_greatest 27 = .ok (.goto (-24), 3) := by decide +kernel
theorem dX2_greatest_30 : decode cX2_greatest 30 = .ok (.iload_n 2, 1) := by decide +kernel
theorem dX2_greatest_31 : decode cX2_greatest 31 = .ok (.ireturn, 1) := by decide +kernel
theorem dX2_divide_0 : decode cX2_divide 0 = .ok (.iload_n 1, 1) := by decide +kernel
theorem dX2_divide_1 : decode cX2_divide 1 = .ok (.invokestatic 119, 3) := by decide +kernel
theorem dX2_divide_4 : decode cX2_divide 4 = .ok (.ifCond .eq 43, 3) := by decide +kernel
theorem dX2_divide_7 : decode cX2_divide 7 = .ok (.iload_n 2, 1) := by decide +kernel
theorem dX2_divide_8 : decode cX2_divide 8 = .ok (.invokestatic 119, 3) := by decide +kernel
theorem dX2_divide_11 : decode cX2_divide 11 = .ok (.ifCond .eq 36, 3) := by decide +kernel
theorem dX2_divide_14 : decode cX2_divide 14 = .ok (.iload_n 1, 1) := by decide +kernel
theorem dX2_divide_15 : decode cX2_divide 15 = .ok (.iload_n 2, 1) := by decide +kernel
theorem dX2_divide_16 : decode cX2_divide 16 = .ok (.if_icmp .eq 31, 3) := by decide +kernel
theorem dX2_divide_19 : decode cX2_divide 19 = .ok (.iload_n 3, 1) := by decide +kernel
theorem dX2_divide_20 : decode cX2_divide 20 = .ok (.invokestatic 119, 3) := by decide +kernel
theorem dX2_divide_23 : decode cX2_divide 23 = .ok (.ifCond .eq 24, 3) := by decide +kernel
theorem dX2_divide_26 : decode cX2_divide 26 = .ok (.iload 4, 2) := by decide +kernel
theorem dX2_divide_28 : decode cX2_divide 28 = .ok (.invokestatic 119, 3) := by decide +kernel
theorem dX2_divide_31 : decode cX2_divide 31 = .ok (.ifCond .eq 16, 3) := by decide +kernel
theorem dX2_divide_34 : decode cX2_divide 34 = .ok (.iload 5, 2) := by decide +kernel
theorem dX2_divide_36 : decode cX2_divide 36 = .ok (.i2l, 1) := by decide +kernel
theorem dX2_divide_37 : decode cX2_divide 37 = .ok (.lconst 1, 1) := by decide +kernel
theorem dX2_divide_38 : decode cX2_divide 38 = .ok (.ldc2_w 62, 3) := by decide +kernel
theorem dX2_divide_41 : decode cX2_divide 41 = .ok (.invokestatic 32, 3) := by decide +kernel
theorem dX2_divide_44 : decode cX2_divide 44 = .ok (.ifCond .ne 5, 3) := by decide +kernel
theorem dX2_divide_47 : decode cX2_divide 47 = .ok (.iconst (-1), 1) := by decide +kernel
theorem dX2_divide_48 : decode cX2_divide 48 = .ok (.ireturn, 1) := by decide +kernel
theorem dX2_divide_49 : decode cX2_divide 49 = .ok (.aload_n 0, 1) := by decide +kernel
theorem dX2_divide_50 : decode cX2_divide 50 = .ok (.iload 4, 2) := by decide +kernel
theorem dX2_divide_52 : decode cX2_divide 52 = .ok (.invokevirtual 146, 3) := by decide +kernel
theorem dX2_divide_55 : decode cX2_divide 55 = .ok (.istore 6, 2) := by decide +kernel
theorem dX2_divide_57 : decode cX2_divide 57 = .ok (.iload 6, 2) := by decide +kernel
theorem dX2_divide_59 : decode cX2_divide 59 = .ok (.bipush (-6), 2) := by decide +kernel
theorem dX2_divide_61 : decode cX2_divide 61 = .ok (.if_icmp .ge 6, 3) := by decide +kernel
theorem dX2_divide_64 : decode cX2_divide 64 = .ok (.bipush (-2), 2) := by decide +kernel
theorem dX2_divide_66 : decode cX2_divide 66 = .ok (.ireturn, 1) := by decide +kernel
theorem dX2_divide_67 : decode cX2_divide 67 = .ok (.aload_n 0, 1) := by decide +kernel
theorem dX2_divide_68 : decode cX2_divide 68 = .ok (.getfield 23, 3) := by decide +kernel
theorem dX2_divide_71 : decode cX2_divide 71 = .ok (.iload 4, 2) := by decide +kernel
theorem dX2_divide_73 : decode cX2_divide 73 = .ok (.iload 6, 2) := by decide +kernel
theorem dX2_divide_75 : decode cX2_divide 75 = .ok (.invokestatic 105, 3) := by decide +kernel
theorem dX2_divide_78 : decode cX2_divide 78 = .ok (.laload, 1) := by decide +kernel
theorem dX2_divide_79 : decode cX2_divide 79 = .ok (.lstore 7, 2) := by decide +kernel
theorem dX2_divide_81 : decode cX2_divide 81 = .ok (.lload 7, 2) := by decide +kernel
theorem dX2_divide_83 : decode cX2_divide 83 = .ok (.lconst 0, 1) := by decide +kernel
theorem dX2_divide_84 : decode cX2_divide 84 = .ok (.lcmp, 1) := by decide +kernel
theorem dX2_divide_85 : decode cX2_divide 85 = .ok (.ifCond .ge 9, 3) := by decide +kernel
theorem dX2_divide_88 : decode cX2_divide 88 = .ok (.lload 7, 2) := by decide +kernel
theorem dX2_divide_90 : decode cX2_divide 90 = .ok (.lneg, 1) := by decide +kernel
theorem dX2_divide_91 : decode cX2_divide 91 = .ok (.goto 5, 3) := by decide +kernel
theorem dX2_divide_94 : decode cX2_divide 94 = .ok (.lload 7, 2) := by decide +kernel
theorem dX2_divide_96 : decode cX2_divide 96 = .ok (.lstore 9, 2) := by decide +kernel
theorem dX2_divide_98 : decode cX2_divide 98 = .ok (.iconst 0, 1) := by decide +kernel
theorem dX2_divide_99 : decode cX2_divide 99 = .ok (.istore 11, 2) := by decide +kernel
theorem dX2_divide_101 : decode cX2_divide 101 = .ok (.lload 9, 2) := by decide +kernel
theorem dX2_divide_103 : decode cX2_divide 103 = .ok (.ldc2_w 38, 3) := by decide +kernel
theorem dX2_divide_106 : decode cX2_divide 106 = .ok (.lrem, 1) := by decide +kernel
theorem dX2_divide_107 : decode cX2_divide 107 = .ok (.lconst 0, 1) := by decide +kernel
theorem dX2_divide_108 : decode cX2_divide 108 = .ok (.lcmp, 1) := by decide +kernel
theorem dX2_divide_109 : decode cX2_divide 109 = .ok (.ifCond .ne 17, 3) := by decide +kernel
theorem dX2_divide_112 : decode cX2_divide 112 = .ok (.lload 9, 2) := by decide +kernel
theorem dX2_divide_114 : decode cX2_divide 114 = .ok (.ldc2_w 38, 3) := by decide +kernel
theorem dX2_divide_117 : decode cX2_divide 117 = .ok (.ldiv, 1) := by decide +kernel
theorem dX2_divide_118 : decode cX2_divide 118 = .ok (.lstore 9, 2) := by decide +kernel
theorem dX2_divide_120 : decode cX2_divide 120 = .ok (.iinc 11 1, 3) := by decide +kernel
theorem dX2_divide_123 : decode cX2_divide 123 = .ok (.goto (-22), 3) := by decide +kernel
theorem dX2_divide_126 : decode cX2_divide 126 = .ok (.lload 9, 2) := by decide +kernel
theorem dX2_divide_128 : decode cX2_divide 128 = .ok (.lconst 1, 1) := by decide +kernel
theorem dX2_divide_129 : decode cX2_divide 129 = .ok (.lcmp, 1) := by decide +kernel
theorem dX2_divide_130 : decode cX2_divide 130 = .ok (.ifCond .eq 6, 3) := by decide +kernel
theorem dX2_divide_133 : decode cX2_divide 133 = .ok (.bipush (-2), 2) := by decide +kernel
theorem dX2_divide_135 : decode cX2_divide 135 = .ok (.ireturn, 1) := by decide +kernel
theorem dX2_divide_136 : decode cX2_divide 136 = .ok (.aload_n 0, 1) := by decide +kernel
theorem dX2_divide_137 : decode cX2_divide 137 = .ok (.bipush 8, 2) := by decide +kernel
theorem dX2_divide_139 : decode cX2_divide 139 = .ok (.iload_n 3, 1) := by decide +kernel
theorem dX2_divide_140 : decode cX2_divide 140 = .ok (.invokevirtual 128, 3) := by decide +kernel
theorem dX2_divide_143 : decode cX2_divide 143 = .ok (.aload_n 0, 1) := by decide +kernel
theorem dX2_divide_144 : decode cX2_divide 144 = .ok (.bipush 9, 2) := by decide +kernel
theorem dX2_divide_146 : decode cX2_divide 146 = .ok (.iconst (-1), 1) := by decide +kernel
theorem dX2_divide_147 : decode cX2_divide 147 = .ok (.invokevirtual 128, 3) := by decide +kernel
theorem dX2_divide_150 : decode cX2_divide 150 = .ok (.iconst 0, 1) := by decide +kernel
theorem dX2_divide_151 : decode cX2_divide 151 = .ok (.istore 12, 2) := by decide +kernel
theorem dX2_divide_153 : decode cX2_divide 153 = .ok (.iload 12, 2) := by decide +kernel
theorem dX2_divide_155 : decode cX2_divide 155 = .ok (.iload 5, 2) := by decide +kernel
theorem dX2_divide_157 : decode cX2_divide 157 = .ok (.if_icmp .ge 276, 3) := by decide +kernel
theorem dX2_divide_160 : decode cX2_divide 160 = .ok (.aload_n 0, 1) := by decide +kernel
theorem dX2_divide_161 : decode cX2_divide 161 = .ok (.bipush 8, 2) := by decide +kernel
theorem dX2_divide_163 : decode cX2_divide 163 = .ok (.invokevirtual 146, 3) := by decide +kernel
theorem dX2_divide_166 : decode cX2_divide 166 = .ok (.bipush (-6), 2) := by decide +kernel
theorem dX2_divide_168 : decode cX2_divide 168 = .ok (.if_icmp .lt 265, 3) := by decide +kernel
theorem dX2_divide_171 : decode cX2_divide 171 = .ok (.aload_n 0, 1) := by decide +kernel
theorem dX2_divide_172 : decode cX2_divide 172 = .ok (.bipush 8, 2) := by decide +kernel
theorem dX2_divide_174 : decode cX2_divide 174 = .ok (.invokevirtual 146, 3) := by decide +kernel
theorem dX2_divide_177 : decode cX2_divide 177 = .ok (.iload 6, 2) := by decide +kernel
theorem dX2_divide_179 : decode cX2_divide 179 = .ok (.isub, 1) := by decide +kernel
theorem dX2_divide_180 : decode cX2_divide 180 = .ok (.bipush (-6), 2) := by decide +kernel
theorem dX2_divide_182 : decode cX2_divide 182 = .ok (.if_icmp .lt 251, 3) := by decide +kernel
theorem dX2_divide_185 : decode cX2_divide 185 = .ok (.aload_n 0, 1) := by decide +kernel
theorem dX2_divide_186 : decode cX2_divide 186 = .ok (.bipush 8, 2) := by decide +kernel
theorem dX2_divide_188 : decode cX2_divide 188 = .ok (.invokevirtual 146, 3) := by decide +kernel
theorem dX2_divide_191 : decode cX2_divide 191 = .ok (.istore 13, 2) := by decide +kernel
theorem dX2_divide_193 : decode cX2_divide 193 = .ok (.aload_n 0, 1) := by decide +kernel
theorem dX2_divide_194 : decode cX2_divide 194 = .ok (.getfield 27, 3) := by decide +kernel
theorem dX2_divide_197 : decode cX2_divide 197 = .ok (.bipush 8, 2) := by decide +kernel
theorem dX2_divide_199 : decode cX2_divide 199 = .ok (.iload 13, 2) := by decide +kernel
theorem dX2_divide_201 : decode cX2_divide 201 = .ok (.invokestatic 105, 3) := by decide +kernel
theorem dX2_divide_204 : decode cX2_divide 204 = .ok (.iaload, 1) := by decide +kernel
theorem dX2_divide_205 : decode cX2_divide 205 = .ok (.iload 11, 2) := by decide +kernel
theorem dX2_divide_207 : decode cX2_divide 207 = .ok (.iadd, 1) := by decide +kernel
theorem dX2_divide_208 : decode cX2_divide 208 = .ok (.aload_n 0, 1) := by decide +kernel
theorem dX2_divide_209 : decode cX2_divide 209 = .ok (.getfield 27, 3) := by decide +kernel
theorem dX2_divide_212 : decode cX2_divide 212 = .ok (.iload 4, 2) := by decide +kernel
theorem dX2_divide_214 : decode cX2_divide 214 = .ok (.iload 6, 2) := by decide +kernel
theorem dX2_divide_216 : decode cX2_divide 216 = .ok (.invokestatic 105, 3) := by decide +kernel
theorem dX2_divide_219 : decode cX2_divide 219 = .ok (.iaload, 1) := by decide +kernel
theorem dX2_divide_220 : decode cX2_divide 220 = .ok (.isub, 1) := by decide +kernel
theorem dX2_divide_221 : decode cX2_divide 221 = .ok (.istore 14, 2) := by decide +kernel
theorem dX2_divide_223 : decode cX2_divide 223 = .ok (.aload_n 0, 1) := by decide +kernel
theorem dX2_divide_224 : decode cX2_divide 224 = .ok (.getfield 23, 3) := by decide +kernel
theorem dX2_divide_227 : decode cX2_divide 227 = .ok (.bipush 8, 2) := by decide +kernel
theorem dX2_divide_229 : decode cX2_divide 229 = .ok (.iload 13, 2) := by decide +kernel
theorem dX2_divide_231 : decode cX2_divide 231 = .ok (.invokestatic 105, 3) := by decide +kernel
theorem dX2_divide_234 : decode cX2_divide 234 = .ok (.laload, 1) := by decide +kernel
end
section
theorem dX2_divide_235 : decode cX2_divide 235 = .ok (.lload 7, 2) := by decide +kernel
theorem dX2_divide_237 : decode cX2_divide 237 = .ok (.lconst 0, 1) := by decide +kernel
theorem dX2_divide_238 : decode cX2_divide 238 = .ok (.lcmp, 1) := by decide +kernel
theorem dX2_divide_239 : decode cX2_divide 239 = .ok (.ifCond .ge 9, 3) := by decide +kernel
theorem dX2_divide_242 : decode cX2_divide 242 = .ok (.ldc2_w 140, 3) := by decide +kernel
theorem dX2_divide_245 : decode cX2_divide 245 = .ok (.goto 4, 3) := by decide +kernel
theorem dX2_divide_248 : decode cX2_divide 248 = .ok (.lconst 1, 1) := by decide +kernel
theorem dX2_divide_249 : decode cX2_divide 249 = .ok (.lmul, 1) := by decide +kernel
theorem dX2_divide_250 : decode cX2_divide 250 = .ok (.lstore 15, 2) := by decide +kernel
theorem dX2_divide_252 : decode cX2_divide 252 = .ok (.iload 14, 2) := by decide +kernel
theorem dX2_divide_254 : decode cX2_divide 254 = .ok (.ifCond .ge 12, 3) := by decide +kernel
theorem dX2_divide_257 : decode cX2_divide 257 = .ok (.lload 15, 2) := by decide +kernel
theorem dX2_divide_259 : decode cX2_divide 259 = .ok (.iload 14, 2) := by decide +kernel
theorem dX2_divide_261 : decode cX2_divide 261 = .ok (.ineg, 1) := by decide +kernel
theorem dX2_divide_262 : decode cX2_divide 262 = .ok (.lshl, 1) := by decide +kernel
theorem dX2_divide_263 : decode cX2_divide 263 = .ok (.goto 5, 3) := by decide +kernel
theorem dX2_divide_266 : decode cX2_divide 266 = .ok (.lload 15, 2) := by decide +kernel
theorem dX2_divide_268 : decode cX2_divide 268 = .ok (.lstore 15, 2) := by decide +kernel
theorem dX2_divide_270 : decode cX2_divide 270 = .ok (.aload_n 0, 1) := by decide +kernel
theorem dX2_divide_271 : decode cX2_divide 271 = .ok (.lload 15, 2) := by decide +kernel
theorem dX2_divide_273 : decode cX2_divide 273 = .ok (.iload 14, 2) := by decide +kernel
theorem dX2_divide_275 : decode cX2_divide 275 = .ok (.ifCond .ge 7, 3) := by decide +kernel
theorem dX2_divide_278 : decode cX2_divide 278 = .ok (.iconst 0, 1) := by decide +kernel
theorem dX2_divide_279 : decode cX2_divide 279 = .ok (.goto 5, 3) := by decide +kernel
theorem dX2_divide_282 : decode cX2_divide 282 = .ok (.iload 14, 2) := by decide +kernel
theorem dX2_divide_284 : decode cX2_divide 284 = .ok (.invokevirtual 112, 3) := by decide +kernel
theorem dX2_divide_287 : decode cX2_divide 287 = .ok (.istore 17, 2) := by decide +kernel
theorem dX2_divide_289 : decode cX2_divide 289 = .ok (.aload_n 0, 1) := by decide +kernel
theorem dX2_divide_290 : decode cX2_divide 290 = .ok (.getfield 96, 3) := by decide +kernel
theorem dX2_divide_293 : decode cX2_divide 293 = .ok (.lstore 18, 2) := by decide +kernel
theorem dX2_divide_295 : decode cX2_divide 295 = .ok (.aload_n 0, 1) := by decide +kernel
theorem dX2_divide_296 : decode cX2_divide 296 = .ok (.getfield 100, 3) := by decide +kernel
theorem dX2_divide_299 : decode cX2_divide 299 = .ok (.istore 20, 2) := by decide +kernel
theorem dX2_divide_301 : decode cX2_divide 301 = .ok (.iload 17, 2) := by decide +kernel
theorem dX2_divide_303 : decode cX2_divide 303 = .ok (.ifCond .eq 25, 3) := by decide +kernel
theorem dX2_divide_306 : decode cX2_divide 306 = .ok (.aload_n 0, 1) := by decide +kernel
theorem dX2_divide_307 : decode cX2_divide 307 = .ok (.bipush 9, 2) := by decide +kernel
theorem dX2_divide_309 : decode cX2_divide 309 = .ok (.iload 13, 2) := by decide +kernel
theorem dX2_divide_311 : decode cX2_divide 311 = .ok (.iload 6, 2) := by decide +kernel
theorem dX2_divide_313 : decode cX2_divide 313 = .ok (.isub, 1) := by decide +kernel
theorem dX2_divide_314 : decode cX2_divide 314 = .ok (.lload 18, 2) := by decide +kernel
theorem dX2_divide_316 : decode cX2_divide 316 = .ok (.iload 20, 2) := by decide +kernel
theorem dX2_divide_318 : decode cX2_divide 318 = .ok (.invokevirtual 115, 3) := by decide +kernel
theorem dX2_divide_321 : decode cX2_divide 321 = .ok (.ifCond .eq 7, 3) := by decide +kernel
theorem dX2_divide_324 : decode cX2_divide 324 = .ok (.iconst 1, 1) := by decide +kernel
theorem dX2_divide_325 : decode cX2_divide 325 = .ok (.goto 4, 3) := by decide +kernel
theorem dX2_divide_328 : decode cX2_divide 328 = .ok (.iconst 0, 1) := by decide +kernel
theorem dX2_divide_329 : decode cX2_divide 329 = .ok (.istore 17, 2) := by decide +kernel
theorem dX2_divide_331 : decode cX2_divide 331 = .ok (.bipush 6, 2) := by decide +kernel
theorem dX2_divide_333 : decode cX2_divide 333 = .ok (.istore 21, 2) := by decide +kernel
theorem dX2_divide_335 : decode cX2_divide 335 = .ok (.iload 21, 2) := by decide +kernel
theorem dX2_divide_337 : decode cX2_divide 337 = .ok (.bipush (-6), 2) := by decide +kernel
theorem dX2_divide_339 : decode cX2_divide 339 = .ok (.if_icmp .lt 80, 3) := by decide +kernel
theorem dX2_divide_342 : decode cX2_divide 342 = .ok (.iload 17, 2) := by decide +kernel
theorem dX2_divide_344 : decode cX2_divide 344 = .ok (.ifCond .eq 75, 3) := by decide +kernel
theorem dX2_divide_347 : decode cX2_divide 347 = .ok (.iload 4, 2) := by decide +kernel
theorem dX2_divide_349 : decode cX2_divide 349 = .ok (.iload 21, 2) := by decide +kernel
theorem dX2_divide_351 : decode cX2_divide 351 = .ok (.invokestatic 105, 3) := by decide +kernel
theorem dX2_divide_354 : decode cX2_divide 354 = .ok (.istore 22, 2) := by decide +kernel
theorem dX2_divide_356 : decode cX2_divide 356 = .ok (.aload_n 0, 1) := by decide +kernel
theorem dX2_divide_357 : decode cX2_divide 357 = .ok (.getfield 23, 3) := by decide +kernel
theorem dX2_divide_360 : decode cX2_divide 360 = .ok (.iload 22, 2) := by decide +kernel
theorem dX2_divide_362 : decode cX2_divide 362 = .ok (.laload, 1) := by decide +kernel
theorem dX2_divide_363 : decode cX2_divide 363 = .ok (.lconst 0, 1) := by decide +kernel
theorem dX2_divide_364 : decode cX2_divide 364 = .ok (.lcmp, 1) := by decide +kernel
theorem dX2_divide_365 : decode cX2_divide 365 = .ok (.ifCond .eq 41, 3) := by decide +kernel
theorem dX2_divide_368 : decode cX2_divide 368 = .ok (.aload_n 0, 1) := by decide +kernel
theorem dX2_divide_369 : decode cX2_divide 369 = .ok (.bipush 8, 2) := by decide +kernel
theorem dX2_divide_371 : decode cX2_divide 371 = .ok (.iload 13, 2) := by decide +kernel
theorem dX2_divide_373 : decode cX2_divide 373 = .ok (.iload 6, 2) := by decide +kernel
theorem dX2_divide_375 : decode cX2_divide 375 = .ok (.isub, 1) := by decide +kernel
theorem dX2_divide_376 : decode cX2_divide 376 = .ok (.iload 21, 2) := by decide +kernel
theorem dX2_divide_378 : decode cX2_divide 378 = .ok (.iadd, 1) := by decide +kernel
theorem dX2_divide_379 : decode cX2_divide 379 = .ok (.lload 18, 2) := by decide +kernel
theorem dX2_divide_381 : decode cX2_divide 381 = .ok (.iload 20, 2) := by decide +kernel
theorem dX2_divide_383 : decode cX2_divide 383 = .ok (.aload_n 0, 1) := by decide +kernel
theorem dX2_divide_384 : decode cX2_divide 384 = .ok (.getfield 23, 3) := by decide +kernel
theorem dX2_divide_387 : decode cX2_divide 387 = .ok (.iload 22, 2) := by decide +kernel
theorem dX2_divide_389 : decode cX2_divide 389 = .ok (.laload, 1) := by decide +kernel
theorem dX2_divide_390 : decode cX2_divide 390 = .ok (.aload_n 0, 1) := by decide +kernel
theorem dX2_divide_391 : decode cX2_divide 391 = .ok (.getfield 27, 3) := by decide +kernel
theorem dX2_divide_394 : decode cX2_divide 394 = .ok (.iload 22, 2) := by decide +kernel
theorem dX2_divide_396 : decode cX2_divide 396 = .ok (.iaload, 1) := by decide +kernel
theorem dX2_divide_397 : decode cX2_divide 397 = .ok (.ldc2_w 140, 3) := by decide +kernel
theorem dX2_divide_400 : decode cX2_divide 400 = .ok (.invokevirtual 132, 3) := by decide +kernel
theorem dX2_divide_403 : decode cX2_divide 403 = .ok (.ifCond .eq 7, 3) := by decide +kernel
theorem dX2_divide_406 : decode cX2_divide 406 = .ok (.iconst 1, 1) := by decide +kernel
theorem dX2_divide_407 : decode cX2_divide 407 = .ok (.goto 4, 3) := by decide +kernel
theorem dX2_divide_410 : decode cX2_divide 410 = .ok (.iconst 0, 1) := by decide +kernel
theorem dX2_divide_411 : decode cX2_divide 411 = .ok (.istore 17, 2) := by decide +kernel
theorem dX2_divide_413 : decode cX2_divide 413 = .ok (.iinc 21 (-1), 3) := by decide +kernel
theorem dX2_divide_416 : decode cX2_divide 416 = .ok (.goto (-81), 3) := by decide +kernel
theorem dX2_divide_419 : decode cX2_divide 419 = .ok (.iload 17, 2) := by decide +kernel
theorem dX2_divide_421 : decode cX2_divide 421 = .ok (.ifCond .ne 6, 3) := by decide +kernel
theorem dX2_divide_424 : decode cX2_divide 424 = .ok (.bipush (-5), 2) := by decide +kernel
theorem dX2_divide_426 : decode cX2_divide 426 = .ok (.ireturn, 1) := by decide +kernel
theorem dX2_divide_427 : decode cX2_divide 427 = .ok (.iinc 12 1, 3) := by decide +kernel
theorem dX2_divide_430 : decode cX2_divide 430 = .ok (.goto (-277), 3) := by decide +kernel
theorem dX2_divide_433 : decode cX2_divide 433 = .ok (.aload_n 0, 1) := by decide +kernel
theorem dX2_divide_434 : decode cX2_divide 434 = .ok (.iload_n 1, 1) := by decide +kernel
theorem dX2_divide_435 : decode cX2_divide 435 = .ok (.bipush 9, 2) := by decide +kernel
theorem dX2_divide_437 : decode cX2_divide 437 = .ok (.invokevirtual 128, 3) := by decide +kernel
theorem dX2_divide_440 : decode cX2_divide 440 = .ok (.aload_n 0, 1) := by decide +kernel
theorem dX2_divide_441 : decode cX2_divide 441 = .ok (.iload_n 2, 1) := by decide +kernel
theorem dX2_divide_442 : decode cX2_divide 442 = .ok (.bipush 8, 2) := by decide +kernel
theorem dX2_divide_444 : decode cX2_divide 444 = .ok (.invokevirtual 128, 3) := by decide +kernel
theorem dX2_divide_447 : decode cX2_divide 447 = .ok (.iload 12, 2) := by decide +kernel
theorem dX2_divide_449 : decode cX2_divide 449 = .ok (.ireturn, 1) := by decide +kernel
theorem dX2_order_0 : decode cX2_order 0 = .ok (.iload_n 1, 1) := by decide +kernel
theorem dX2_order_1 : decode cX2_order 1 = .ok (.invokestatic 119, 3) := by decide +kernel
theorem dX2_order_4 : decode cX2_order 4 = .ok (.ifCond .eq 10, 3) := by decide +kernel
theorem dX2_order_7 : decode cX2_order 7 = .ok (.iload_n 2, 1) := by decide +kernel
theorem dX2_order_8 : decode cX2_order 8 = .ok (.invokestatic 119, 3) := by decide +kernel
theorem dX2_order_11 : decode cX2_order 11 = .ok (.ifCond .ne 6, 3) := by decide +kernel
theorem dX2_order_14 : decode cX2_order 14 = .ok (.bipush (-9), 2) := by decide +kernel
theorem dX2_order_16 : decode cX2_order 16 = .ok (.ireturn, 1) := by decide +kernel
theorem dX2_order_17 : decode cX2_order 17 = .ok (.aload_n 0, 1) := by decide +kernel
theorem dX2_order_18 : decode cX2_order 18 = .ok (.iload_n 1, 1) := by decide +kernel
theorem dX2_order_19 : decode cX2_order 19 = .ok (.iload_n 2, 1) := by decide +kernel
theorem dX2_order_20 : decode cX2_order 20 = .ok (.ldc2_w 140, 3) := by decide +kernel
theorem dX2_order_23 : decode cX2_order 23 = .ok (.invokevirtual 142, 3) := by decide +kernel
theorem dX2_order_26 : decode cX2_order 26 = .ok (.ifCond .ne 6, 3) := by decide +kernel
theorem dX2_order_29 : decode cX2_order 29 = .ok (.bipush (-5), 2) := by decide +kernel
theorem dX2_order_31 : decode cX2_order 31 = .ok (.ireturn, 1) := by decide +kernel
theorem dX2_order_32 : decode cX2_order 32 = .ok (.aload_n 0, 1) := by decide +kernel
theorem dX2_order_33 : decode cX2_order 33 = .ok (.bipush 9, 2) := by decide +kernel
theorem dX2_order_35 : decode cX2_order 35 = .ok (.invokevirtual 146, 3) := by decide +kernel
theorem dX2_order_38 : decode cX2_order 38 = .ok (.istore_n 3, 1) := by decide +kernel
theorem dX2_order_39 : decode cX2_order 39 = .ok (.iload_n 3, 1) := by decide +kernel
theorem dX2_order_40 : decode cX2_order 40 = .ok (.bipush (-6), 2) := by decide +kernel
theorem dX2_order_42 : decode cX2_order 42 = .ok (.if_icmp .ge 7, 3) := by decide +kernel
theorem dX2_order_45 : decode cX2_order 45 = .ok (.iconst 0, 1) := by decide +kernel
theorem dX2_order_46 : decode cX2_order 46 = .ok (.goto 24, 3) := by decide +kernel
theorem dX2_order_49 : decode cX2_order 49 = .ok (.aload_n 0, 1) := by decide +kernel
theorem dX2_order_50 : decode cX2_order 50 = .ok (.getfield 23, 3) := by decide +kernel
theorem dX2_order_53 : decode cX2_order 53 = .ok (.bipush 9, 2) := by decide +kernel
theorem dX2_order_55 : decode cX2_order 55 = .ok (.iload_n 3, 1) := by decide +kernel
theorem dX2_order_56 : decode cX2_order 56 = .ok (.invokestatic 105, 3) := by decide +kernel
theorem dX2_order_59 : decode cX2_order 59 = .ok (.laload, 1) := by decide +kernel
theorem dX2_order_60 : decode cX2_order 60 = .ok (.lconst 0, 1) := by decide +kernel
theorem dX2_order_61 : decode cX2_order 61 = .ok (.lcmp, 1) := by decide +kernel
theorem dX2_order_62 : decode cX2_order 62 = .ok (.ifCond .le 7, 3) := by decide +kernel
theorem dX2_order_65 : decode cX2_order 65 = .ok (.iconst 1, 1) := by decide +kernel
theorem dX2_order_66 : decode cX2_order 66 = .ok (.goto 4, 3) := by decide +kernel
theorem dX2_order_69 : decode cX2_order 69 = .ok (.iconst (-1), 1) := by decide +kernel
theorem dX2_order_70 : decode cX2_order 70 = .ok (.ireturn, 1) := by decide +kernel
theorem dX2_take_0 : decode cX2_take 0 = .ok (.iload_n 1, 1) := by decide +kernel
theorem dX2_take_1 : decode cX2_take 1 = .ok (.invokestatic 119, 3) := by decide +kernel
theorem dX2_take_4 : decode cX2_take 4 = .ok (.ifCond .eq 10, 3) := by decide +kernel
theorem dX2_take_7 : decode cX2_take 7 = .ok (.iload_n 2, 1) := by decide +kernel
theorem dX2_take_8 : decode cX2_take 8 = .ok (.invokestatic 52, 3) := by decide +kernel
theorem dX2_take_11 : decode cX2_take 11 = .ok (.ifCond .ne 5, 3) := by decide +kernel
theorem dX2_take_14 : decode cX2_take 14 = .ok (.iconst (-1), 1) := by decide +kernel
theorem dX2_take_15 : decode cX2_take 15 = .ok (.ireturn, 1) := by decide +kernel
theorem dX2_take_16 : decode cX2_take 16 = .ok (.aload_n 0, 1) := by decide +kernel
theorem dX2_take_17 : decode cX2_take 17 = .ok (.aload_n 0, 1) := by decide +kernel
theorem dX2_take_18 : decode cX2_take 18 = .ok (.iload_n 2, 1) := by decide +kernel
theorem dX2_take_19 : decode cX2_take 19 = .ok (.invokevirtual 73, 3) := by decide +kernel
theorem dX2_take_22 : decode cX2_take 22 = .ok (.bipush 24, 2) := by decide +kernel
theorem dX2_take_24 : decode cX2_take 24 = .ok (.invokevirtual 112, 3) := by decide +kernel
theorem dX2_take_27 : decode cX2_take 27 = .ok (.ifCond .ne 6, 3) := by decide +kernel
theorem dX2_take_30 : decode cX2_take 30 = .ok (.bipush (-5), 2) := by decide +kernel
theorem dX2_take_32 : decode cX2_take 32 = .ok (.ireturn, 1) := by decide +kernel
theorem dX2_take_33 : decode cX2_take 33 = .ok (.aload_n 0, 1) := by decide +kernel
theorem dX2_take_34 : decode cX2_take 34 = .ok (.iload_n 1, 1) := by decide +kernel
theorem dX2_take_35 : decode cX2_take 35 = .ok (.iconst (-1), 1) := by decide +kernel
theorem dX2_take_36 : decode cX2_take 36 = .ok (.invokevirtual 128, 3) := by decide +kernel
theorem dX2_take_39 : decode cX2_take 39 = .ok (.aload_n 0, 1) := by decide +kernel
theorem dX2_take_40 : decode cX2_take 40 = .ok (.getfield 23, 3) := by decide +kernel
theorem dX2_take_43 : decode cX2_take 43 = .ok (.iload_n 1, 1) := by decide +kernel
theorem dX2_take_44 : decode cX2_take 44 = .ok (.iconst 0, 1) := by decide +kernel
theorem dX2_take_45 : decode cX2_take 45 = .ok (.invokestatic 105, 3) := by decide +kernel
theorem dX2_take_48 : decode cX2_take 48 = .ok (.aload_n 0, 1) := by decide +kernel
theorem dX2_take_49 : decode cX2_take 49 = .ok (.getfield 96, 3) := by decide +kernel
theorem dX2_take_52 : decode cX2_take 52 = .ok (.lastore, 1) := by decide +kernel
theorem dX2_take_53 : decode cX2_take 53 = .ok (.aload_n 0, 1) := by decide +kernel
theorem dX2_take_54 : decode cX2_take 54 = .ok (.getfield 27, 3) := by decide +kernel
theorem dX2_take_57 : decode cX2_take 57 = .ok (.iload_n 1, 1) := by decide +kernel
theorem dX2_take_58 : decode cX2_take 58 = .ok (.iconst 0, 1) := by decide +kernel
theorem dX2_take_59 : decode cX2_take 59 = .ok (.invokestatic 105, 3) := by decide +kernel
theorem dX2_take_62 : decode cX2_take 62 = .ok (.aload_n 0, 1) := by decide +kernel
theorem dX2_take_63 : decode cX2_take 63 = .ok (.getfield 96, 3) := by decide +kernel
theorem dX2_take_66 : decode cX2_take 66 = .ok (.lconst 0, 1) := by decide +kernel
theorem dX2_take_67 : decode cX2_take 67 = .ok (.lcmp, 1) := by decide +kernel
theorem dX2_take_68 : decode cX2_take 68 = .ok (.ifCond .ne 7, 3) := by decide +kernel
theorem dX2_take_71 : decode cX2_take 71 = .ok (.iconst 0, 1) := by decide +kernel
theorem dX2_take_72 : decode cX2_take 72 = .ok (.goto 7, 3) := by decide +kernel
theorem dX2_take_75 : decode cX2_take 75 = .ok (.aload_n 0, 1) := by decide +kernel
theorem dX2_take_76 : decode cX2_take 76 = .ok (.getfield 100, 3) := by decide +kernel
theorem dX2_take_79 : decode cX2_take 79 = .ok (.iastore, 1) := by decide +kernel
theorem dX2_take_80 : decode cX2_take 80 = .ok (.aload_n 0, 1) := by decide +kernel
theorem dX2_take_81 : decode cX2_take 81 = .ok (.iload_n 1, 1) := by decide +kernel
theorem dX2_take_82 : decode cX2_take 82 = .ok (.invokevirtual 122, 3) := by decide +kernel
theorem dX2_take_85 : decode cX2_take 85 = .ok (.ireturn, 1) := by decide +kernel
theorem dX2_near_0 : decode cX2_near 0 = .ok (.iload_n 1, 1) := by decide +kernel
theorem dX2_near_1 : decode cX2_near 1 = .ok (.invokestatic 52, 3) := by decide +kernel
theorem dX2_near_4 : decode cX2_near 4 = .ok (.ifCond .eq 10, 3) := by decide +kernel
theorem dX2_near_7 : decode cX2_near 7 = .ok (.iload_n 2, 1) := by decide +kernel
theorem dX2_near_8 : decode cX2_near 8 = .ok (.invokestatic 119, 3) := by decide +kernel
theorem dX2_near_11 : decode cX2_near 11 = .ok (.ifCond .ne 5, 3) := by decide +kernel
theorem dX2_near_14 : decode cX2_near 14 = .ok (.iconst (-1), 1) := by decide +kernel
theorem dX2_near_15 : decode cX2_near 15 = .ok (.ireturn, 1) := by decide +kernel
theorem dX2_near_16 : decode cX2_near 16 = .ok (.aload_n 0, 1) := by decide +kernel
theorem dX2_near_17 : decode cX2_near 17 = .ok (.iload_n 2, 1) := by decide +kernel
theorem dX2_near_18 : decode cX2_near 18 = .ok (.invokevirtual 146, 3) := by decide +kernel
theorem dX2_near_21 : decode cX2_near 21 = .ok (.ifCond .le 8, 3) := by decide +kernel
theorem dX2_near_24 : decode cX2_near 24 = .ok (.bipush (-2), 2) := by decide +kernel
theorem dX2_near_26 : decode cX2_near 26 = .ok (.goto 32, 3) := by decide +kernel
theorem dX2_near_29 : decode cX2_near 29 = .ok (.aload_n 0, 1) := by decide +kernel
theorem dX2_near_30 : decode cX2_near 30 = .ok (.iload_n 1, 1) := by decide +kernel
theorem dX2_near_31 : decode cX2_near 31 = .ok (.aload_n 0, 1) := by decide +kernel
theorem dX2_near_32 : decode cX2_near 32 = .ok (.aload_n 0, 1) := by decide +kernel
theorem dX2_near_33 : decode cX2_near 33 = .ok (.getfield 23, 3) := by decide +kernel
theorem dX2_near_36 : decode cX2_near 36 = .ok (.iload_n 2, 1) := by decide +kernel
theorem dX2_near_37 : decode cX2_near 37 = .ok (.iconst 0, 1) := by decide +kernel
theorem dX2_near_38 : decode cX2_near 38 = .ok (.invokestatic 105, 3) := by decide +kernel
theorem dX2_near_41 : decode cX2_near 41 = .ok (.laload, 1) := by decide +kernel
theorem dX2_near_42 : decode cX2_near 42 = .ok (.aload_n 0, 1) := by decide +kernel
theorem dX2_near_43 : decode cX2_near 43 = .ok (.getfield 27, 3) := by decide +kernel
theorem dX2_near_46 : decode cX2_near 46 = .ok (.iload_n 2, 1) := by decide +kernel
theorem dX2_near_47 : decode cX2_near 47 = .ok (.iconst 0, 1) := by decide +kernel
theorem dX2_near_48 : decode cX2_near 48 = .ok (.invokestatic 105, 3) := by decide +kernel
theorem dX2_near_51 : decode cX2_near 51 = .ok (.iaload, 1) := by decide +kernel
theorem dX2_near_52 : decode cX2_near 52 = .ok (.invokevirtual 64, 3) := by decide +kernel
theorem dX2_near_55 : decode cX2_near 55 = .ok (.invokevirtual 68, 3) := by decide +kernel
theorem dX2_near_58 : decode cX2_near 58 = .ok (.ireturn, 1) := by decide +kernel
theorem dJ6_bitCount_0f7a4_0 : decode cJ6_bitCount_0f7a4 0 = .ok (.iload_n 0, 1) := by decide +kernel
theorem dJ6_bitCount_0f7a4_1 : decode cJ6_bitCount_0f7a4 1 = .ok (.iload_n 0, 1) := by decide +kernel
theorem dJ6_bitCount_0f7a4_2 : decode cJ6_bitCount_0f7a4 2 = .ok (.iconst 1, 1) := by decide +kernel
theorem dJ6_bitCount_0f7a4_3 : decode cJ6_bitCount_0f7a4 3 = .ok (.iushr, 1) := by decide +kernel
theorem dJ6_bitCount_0f7a4_4 : decode cJ6_bitCount_0f7a4 4 = .ok (.ldc_w 265, 3) := by decide +kernel
theorem dJ6_bitCount_0f7a4_7 : decode cJ6_bitCount_0f7a4 7 = .ok (.iand, 1) := by decide +kernel
theorem dJ6_bitCount_0f7a4_8 : decode cJ6_bitCount_0f7a4 8 = .ok (.isub, 1) := by decide +kernel
theorem dJ6_bitCount_0f7a4_9 : decode cJ6_bitCount_0f7a4 9 = .ok (.istore_n 0, 1) := by decide +kernel
theorem dJ6_bitCount_0f7a4_10 : decode cJ6_bitCount_0f7a4 10 = .ok (.iload_n 0, 1) := by decide +kernel
theorem dJ6_bitCount_0f7a4_11 : decode cJ6_bitCount_0f7a4 11 = .ok (.ldc_w 266, 3) := by decide +kernel
theorem dJ6_bitCount_0f7a4_14 : decode cJ6_bitCount_0f7a4 14 = .ok (.iand, 1) := by decide +kernel
theorem dJ6_bitCount_0f7a4_15 : decode cJ6_bitCount_0f7a4 15 = .ok (.iload_n 0, 1) := by decide +kernel
theorem dJ6_bitCount_0f7a4_16 : decode cJ6_bitCount_0f7a4 16 = .ok (.iconst 2, 1) := by decide +kernel
theorem dJ6_bitCount_0f7a4_17 : decode cJ6_bitCount_0f7a4 17 = .ok (.iushr, 1) := by decide +kernel
theorem dJ6_bitCount_0f7a4_18 : decode cJ6_bitCount_0f7a4 18 = .ok (.ldc_w 266, 3) := by decide +kernel
theorem dJ6_bitCount_0f7a4_21 : decode cJ6_bitCount_0f7a4 21 = .ok (.iand, 1) := by decide +kernel
theorem dJ6_bitCount_0f7a4_22 : decode cJ6_bitCount_0f7a4 22 = .ok (.iadd, 1) := by decide +kernel
theorem dJ6_bitCount_0f7a4_23 : decode cJ6_bitCount_0f7a4 23 = .ok (.istore_n 0, 1) := by decide +kernel
theorem dJ6_bitCount_0f7a4_24 : decode cJ6_bitCount_0f7a4 24 = .ok (.iload_n 0, 1) := by decide +kernel
theorem dJ6_bitCount_0f7a4_25 : decode cJ6_bitCount_0f7a4 25 = .ok (.iload_n 0, 1) := by decide +kernel
theorem dJ6_bitCount_0f7a4_26 : decode cJ6_bitCount_0f7a4 26 = .ok (.iconst 4, 1) := by decide +kernel
theorem dJ6_bitCount_0f7a4_27 : decode cJ6_bitCount_0f7a4 27 = .ok (.iushr, 1) := by decide +kernel
theorem dJ6_bitCount_0f7a4_28 : decode cJ6_bitCount_0f7a4 28 = .ok (.iadd, 1) := by decide +kernel
theorem dJ6_bitCount_0f7a4_29 : decode cJ6_bitCount_0f7a4 29 = .ok (.ldc_w 267, 3) := by decide +kernel
theorem dJ6_bitCount_0f7a4_32 : decode cJ6_bitCount_0f7a4 32 = .ok (.iand, 1) := by decide +kernel
theorem dJ6_bitCount_0f7a4_33 : decode cJ6_bitCount_0f7a4 33 = .ok (.istore_n 0, 1) := by decide +kernel
theorem dJ6_bitCount_0f7a4_34 : decode cJ6_bitCount_0f7a4 34 = .ok (.iload_n 0, 1) := by decide +kernel
theorem dJ6_bitCount_0f7a4_35 : decode cJ6_bitCount_0f7a4 35 = .ok (.iload_n 0, 1) := by decide +kernel
theorem dJ6_bitCount_0f7a4_36 : decode cJ6_bitCount_0f7a4 36 = .ok (.bipush 8, 2) := by decide +kernel
theorem dJ6_bitCount_0f7a4_38 : decode cJ6_bitCount_0f7a4 38 = .ok (.iushr, 1) := by decide +kernel
theorem dJ6_bitCount_0f7a4_39 : decode cJ6_bitCount_0f7a4 39 = .ok (.iadd, 1) := by decide +kernel
theorem dJ6_bitCount_0f7a4_40 : decode cJ6_bitCount_0f7a4 40 = .ok (.istore_n 0, 1) := by decide +kernel
theorem dJ6_bitCount_0f7a4_41 : decode cJ6_bitCount_0f7a4 41 = .ok (.iload_n 0, 1) := by decide +kernel
theorem dJ6_bitCount_0f7a4_42 : decode cJ6_bitCount_0f7a4 42 = .ok (.iload_n 0, 1) := by decide +kernel
theorem dJ6_bitCount_0f7a4_43 : decode cJ6_bitCount_0f7a4 43 = .ok (.bipush 16, 2) := by decide +kernel
theorem dJ6_bitCount_0f7a4_45 : decode cJ6_bitCount_0f7a4 45 = .ok (.iushr, 1) := by decide +kernel
theorem dJ6_bitCount_0f7a4_46 : decode cJ6_bitCount_0f7a4 46 = .ok (.iadd, 1) := by decide +kernel
theorem dJ6_bitCount_0f7a4_47 : decode cJ6_bitCount_0f7a4 47 = .ok (.istore_n 0, 1) := by decide +kernel
theorem dJ6_bitCount_0f7a4_48 : decode cJ6_bitCount_0f7a4 48 = .ok (.iload_n 0, 1) := by decide +kernel
theorem dJ6_bitCount_0f7a4_49 : decode cJ6_bitCount_0f7a4 49 = .ok (.bipush 63, 2) := by decide +kernel
theorem dJ6_bitCount_0f7a4_51 : decode cJ6_bitCount_0f7a4 51 = .ok (.iand, 1) := by decide +kernel
theorem dJ6_bitCount_0f7a4_52 : decode cJ6_bitCount_0f7a4 52 = .ok (.ireturn, 1) := by decide +kernel
theorem dJ13_bitCount_95d88_0 : decode cJ13_bitCount_95d88 0 = .ok (.lload_n 0, 1) := by decide +kernel
theorem dJ13_bitCount_95d88_1 : decode cJ13_bitCount_95d88 1 = .ok (.lload_n 0, 1) := by decide +kernel
theorem dJ13_bitCount_95d88_2 : decode cJ13_bitCount_95d88 2 = .ok (.iconst 1, 1) := by decide +kernel
theorem dJ13_bitCount_95d88_3 : decode cJ13_bitCount_95d88 3 = .ok (.lushr, 1) := by decide +kernel
theorem dJ13_bitCount_95d88_4 : decode cJ13_bitCount_95d88 4 = .ok (.ldc2_w 314, 3) := by decide +kernel
theorem dJ13_bitCount_95d88_7 : decode cJ13_bitCount_95d88 7 = .ok (.land, 1) := by decide +kernel
theorem dJ13_bitCount_95d88_8 : decode cJ13_bitCount_95d88 8 = .ok (.lsub, 1) := by decide +kernel
theorem dJ13_bitCount_95d88_9 : decode cJ13_bitCount_95d88 9 = .ok (.lstore_n 0, 1) := by decide +kernel
theorem dJ13_bitCount_95d88_10 : decode cJ13_bitCount_95d88 10 = .ok (.lload_n 0, 1) := by decide +kernel
theorem dJ13_bitCount_95d88_11 : decode cJ13_bitCount_95d88 11 = .ok (.ldc2_w 316, 3) := by decide +kernel
theorem dJ13_bitCount_95d88_14 : decode cJ13_bitCount_95d88 14 = .ok (.land, 1) := by decide +kernel
theorem dJ13_bitCount_95d88_15 : decode cJ13_bitCount_95d88 15 = .ok (.lload_n 0, 1) := by decide +kernel
theorem dJ13_bitCount_95d88_16 : decode cJ13_bitCount_95d88 16 = .ok (.iconst 2, 1) := by decide +kernel
theorem dJ13_bitCount_95d88_17 : decode cJ13_bitCount_95d88 17 = .ok (.lushr, 1) := by decide +kernel
theorem dJ13_bitCount_95d88_18 : decode cJ13_bitCount_95d88 18 = .ok (.ldc2_w 316, 3) := by decide +kernel
theorem dJ13_bitCount_95d88_21 : decode cJ13_bitCount_95d88 21 = .ok (.land, 1) := by decide +kernel
theorem dJ13_bitCount_95d88_22 : decode cJ13_bitCount_95d88 22 = .ok (.ladd, 1) := by decide +kernel
theorem dJ13_bitCount_95d88_23 : decode cJ13_bitCount_95d88 23 = .ok (.lstore_n 0, 1) := by decide +kernel
theorem dJ13_bitCount_95d88_24 : decode cJ13_bitCount_95d88 24 = .ok (.lload_n 0, 1) := by decide +kernel
theorem dJ13_bitCount_95d88_25 : decode cJ13_bitCount_95d88 25 = .ok (.lload_n 0, 1) := by decide +kernel
theorem dJ13_bitCount_95d88_26 : decode cJ13_bitCount_95d88 26 = .ok (.iconst 4, 1) := by decide +kernel
theorem dJ13_bitCount_95d88_27 : decode cJ13_bitCount_95d88 27 = .ok (.lushr, 1) := by decide +kernel
theorem dJ13_bitCount_95d88_28 : decode cJ13_bitCount_95d88 28 = .ok (.ladd, 1) := by decide +kernel
theorem dJ13_bitCount_95d88_29 : decode cJ13_bitCount_95d88 29 = .ok (.ldc2_w 318, 3) := by decide +kernel
theorem dJ13_bitCount_95d88_32 : decode cJ13_bitCount_95d88 32 = .ok (.land, 1) := by decide +kernel
theorem dJ13_bitCount_95d88_33 : decode cJ13_bitCount_95d88 33 = .ok (.lstore_n 0, 1) := by decide +kernel
theorem dJ13_bitCount_95d88_34 : decode cJ13_bitCount_95d88 34 = .ok (.lload_n 0, 1) := by decide +kernel
theorem dJ13_bitCount_95d88_35 : decode cJ13_bitCount_95d88 35 = .ok (.lload_n 0, 1) := by decide +kernel
theorem dJ13_bitCount_95d88_36 : decode cJ13_bitCount_95d88 36 = .ok (.bipush 8, 2) := by decide +kernel
theorem dJ13_bitCount_95d88_38 : decode cJ13_bitCount_95d88 38 = .ok (.lushr, 1) := by decide +kernel
theorem dJ13_bitCount_95d88_39 : decode cJ13_bitCount_95d88 39 = .ok (.ladd, 1) := by decide +kernel
theorem dJ13_bitCount_95d88_40 : decode cJ13_bitCount_95d88 40 = .ok (.lstore_n 0, 1) := by decide +kernel
theorem dJ13_bitCount_95d88_41 : decode cJ13_bitCount_95d88 41 = .ok (.lload_n 0, 1) := by decide +kernel
theorem dJ13_bitCount_95d88_42 : decode cJ13_bitCount_95d88 42 = .ok (.lload_n 0, 1) := by decide +kernel
theorem dJ13_bitCount_95d88_43 : decode cJ13_bitCount_95d88 43 = .ok (.bipush 16, 2) := by decide +kernel
theorem dJ13_bitCount_95d88_45 : decode cJ13_bitCount_95d88 45 = .ok (.lushr, 1) := by decide +kernel
theorem dJ13_bitCount_95d88_46 : decode cJ13_bitCount_95d88 46 = .ok (.ladd, 1) := by decide +kernel
theorem dJ13_bitCount_95d88_47 : decode cJ13_bitCount_95d88 47 = .ok (.lstore_n 0, 1) := by decide +kernel
theorem dJ13_bitCount_95d88_48 : decode cJ13_bitCount_95d88 48 = .ok (.lload_n 0, 1) := by decide +kernel
theorem dJ13_bitCount_95d88_49 : decode cJ13_bitCount_95d88 49 = .ok (.lload_n 0, 1) := by decide +kernel
theorem dJ13_bitCount_95d88_50 : decode cJ13_bitCount_95d88 50 = .ok (.bipush 32, 2) := by decide +kernel
theorem dJ13_bitCount_95d88_52 : decode cJ13_bitCount_95d88 52 = .ok (.lushr, 1) := by decide +kernel
theorem dJ13_bitCount_95d88_53 : decode cJ13_bitCount_95d88 53 = .ok (.ladd, 1) := by decide +kernel
theorem dJ13_bitCount_95d88_54 : decode cJ13_bitCount_95d88 54 = .ok (.lstore_n 0, 1) := by decide +kernel
theorem dJ13_bitCount_95d88_55 : decode cJ13_bitCount_95d88 55 = .ok (.lload_n 0, 1) := by decide +kernel
theorem dJ13_bitCount_95d88_56 : decode cJ13_bitCount_95d88 56 = .ok (.l2i, 1) := by decide +kernel
theorem dJ13_bitCount_95d88_57 : decode cJ13_bitCount_95d88 57 = .ok (.bipush 127, 2) := by decide +kernel
theorem dJ13_bitCount_95d88_59 : decode cJ13_bitCount_95d88 59 = .ok (.iand, 1) := by decide +kernel
theorem dJ13_bitCount_95d88_60 : decode cJ13_bitCount_95d88 60 = .ok (.ireturn, 1) := by decide +kernel
theorem dJ9_abs_067f4_0 : decode cJ9_abs_067f4 0 = .ok (.lload_n 0, 1) := by decide +kernel
theorem dJ9_abs_067f4_1 : decode cJ9_abs_067f4 1 = .ok (.lconst 0, 1) := by decide +kernel
theorem dJ9_abs_067f4_2 : decode cJ9_abs_067f4 2 = .ok (.lcmp, 1) := by decide +kernel
theorem dJ9_abs_067f4_3 : decode cJ9_abs_067f4 3 = .ok (.ifCond .ge 8, 3) := by decide +kernel
theorem dJ9_abs_067f4_6 : decode cJ9_abs_067f4 6 = .ok (.lload_n 0, 1) := by decide +kernel
theorem dJ9_abs_067f4_7 : decode cJ9_abs_067f4 7 = .ok (.lneg, 1) := by decide +kernel
theorem dJ9_abs_067f4_8 : decode cJ9_abs_067f4 8 = .ok (.goto 4, 3) := by decide +kernel
theorem dJ9_abs_067f4_11 : decode cJ9_abs_067f4 11 = .ok (.lload_n 0, 1) := by decide +kernel
theorem dJ9_abs_067f4_12 : decode cJ9_abs_067f4 12 = .ok (.lreturn, 1) := by decide +kernel
theorem dJ9_max_7cf53_0 : decode cJ9_max_7cf53 0 = .ok (.iload_n 0, 1) := by decide +kernel
theorem dJ9_max_7cf53_1 : decode cJ9_max_7cf53 1 = .ok (.iload_n 1, 1) := by decide +kernel
theorem dJ9_max_7cf53_2 : decode cJ9_max_7cf53 2 = .ok (.if_icmp .lt 7, 3) := by decide +kernel
theorem dJ9_max_7cf53_5 : decode cJ9_max_7cf53 5 = .ok (.iload_n 0, 1) := by decide +kernel
theorem dJ9_max_7cf53_6 : decode cJ9_max_7cf53 6 = .ok (.goto 4, 3) := by decide +kernel
theorem dJ9_max_7cf53_9 : decode cJ9_max_7cf53 9 = .ok (.iload_n 1, 1) := by decide +kernel
theorem dJ9_max_7cf53_10 : decode cJ9_max_7cf53 10 = .ok (.ireturn, 1) := by decide +kernel
theorem dJ9_max_f86c9_0 : decode cJ9_max_f86c9 0 = .ok (.lload_n 0, 1) := by decide +kernel
theorem dJ9_max_f86c9_1 : decode cJ9_max_f86c9 1 = .ok (.lload_n 2, 1) := by decide +kernel
theorem dJ9_max_f86c9_2 : decode cJ9_max_f86c9 2 = .ok (.lcmp, 1) := by decide +kernel
theorem dJ9_max_f86c9_3 : decode cJ9_max_f86c9 3 = .ok (.ifCond .lt 7, 3) := by decide +kernel
theorem dJ9_max_f86c9_6 : decode cJ9_max_f86c9 6 = .ok (.lload_n 0, 1) := by decide +kernel
theorem dJ9_max_f86c9_7 : decode cJ9_max_f86c9 7 = .ok (.goto 4, 3) := by decide +kernel
theorem dJ9_max_f86c9_10 : decode cJ9_max_f86c9 10 = .ok (.lload_n 2, 1) := by decide +kernel
theorem dJ9_max_f86c9_11 : decode cJ9_max_f86c9 11 = .ok (.lreturn, 1) := by decide +kernel
theorem dJ9_min_f86c9_0 : decode cJ9_min_f86c9 0 = .ok (.lload_n 0, 1) := by decide +kernel
theorem dJ9_min_f86c9_1 : decode cJ9_min_f86c9 1 = .ok (.lload_n 2, 1) := by decide +kernel
theorem dJ9_min_f86c9_2 : decode cJ9_min_f86c9 2 = .ok (.lcmp, 1) := by decide +kernel
theorem dJ9_min_f86c9_3 : decode cJ9_min_f86c9 3 = .ok (.ifCond .gt 7, 3) := by decide +kernel
theorem dJ9_min_f86c9_6 : decode cJ9_min_f86c9 6 = .ok (.lload_n 0, 1) := by decide +kernel
theorem dJ9_min_f86c9_7 : decode cJ9_min_f86c9 7 = .ok (.goto 4, 3) := by decide +kernel
theorem dJ9_min_f86c9_10 : decode cJ9_min_f86c9 10 = .ok (.lload_n 2, 1) := by decide +kernel
theorem dJ9_min_f86c9_11 : decode cJ9_min_f86c9 11 = .ok (.lreturn, 1) := by decide +kernel
theorem dL_law_0 : decode cL_law 0 = .ok (.new 7, 3) := by decide +kernel
theorem dL_law_3 : decode cL_law 3 = .ok (.dup, 1) := by decide +kernel
theorem dL_law_4 : decode cL_law 4 = .ok (.invokespecial 9, 3) := by decide +kernel
theorem dL_law_7 : decode cL_law 7 = .ok (.astore_n 1, 1) := by decide +kernel
theorem dL_law_8 : decode cL_law 8 = .ok (.new 10, 3) := by decide +kernel
theorem dL_law_11 : decode cL_law 11 = .ok (.dup, 1) := by decide +kernel
theorem dL_law_12 : decode cL_law 12 = .ok (.invokespecial 12, 3) := by decide +kernel
theorem dL_law_15 : decode cL_law 15 = .ok (.astore_n 2, 1) := by decide +kernel
theorem dL_law_16 : decode cL_law 16 = .ok (.iconst 0, 1) := by decide +kernel
theorem dL_law_17 : decode cL_law 17 = .ok (.istore_n 3, 1) := by decide +kernel
theorem dL_law_18 : decode cL_law 18 = .ok (.iload_n 3, 1) := by decide +kernel
theorem dL_law_19 : decode cL_law 19 = .ok (.aload_n 0, 1) := by decide +kernel
theorem dL_law_20 : decode cL_law 20 = .ok (.arraylength, 1) := by decide +kernel
theorem dL_law_21 : decode cL_law 21 = .ok (.bipush 6, 2) := by decide +kernel
theorem dL_law_23 : decode cL_law 23 = .ok (.isub, 1) := by decide +kernel
theorem dL_law_24 : decode cL_law 24 = .ok (.if_icmp .gt 883, 3) := by decide +kernel
theorem dL_law_27 : decode cL_law 27 = .ok (.aload_n 0, 1) := by decide +kernel
theorem dL_law_28 : decode cL_law 28 = .ok (.iload_n 3, 1) := by decide +kernel
theorem dL_law_29 : decode cL_law 29 = .ok (.iaload, 1) := by decide +kernel
theorem dL_law_30 : decode cL_law 30 = .ok (.bipush 31, 2) := by decide +kernel
theorem dL_law_32 : decode cL_law 32 = .ok (.iand, 1) := by decide +kernel
theorem dL_law_33 : decode cL_law 33 = .ok (.tableswitch 868 0 18 #[91, 134, 177, 210, 243, 276, 329, 372, 415, 438, 481, 524, 557, 610, 653, 706, 769, 802, 835], 91) := by decide +kernel
theorem dL_law_124 : decode cL_law 124 = .ok (.aload_n 1, 1) := by decide +kernel
theorem dL_law_125 : decode cL_law 125 = .ok (.aload_n 0, 1) := by decide +kernel
theorem dL_law_126 : decode cL_law 126 = .ok (.iload_n 3, 1) := by decide +kernel
theorem dL_law_127 : decode cL_law 127 = .ok (.iconst 1, 1) := by decide +kernel
theorem dL_law_128 : decode cL_law 128 = .ok (.iadd, 1) := by decide +kernel
theorem dL_law_129 : decode cL_law 129 = .ok (.iaload, 1) := by decide +kernel
theorem dL_law_130 : decode cL_law 130 = .ok (.aload_n 0, 1) := by decide +kernel
theorem dL_law_131 : decode cL_law 131 = .ok (.iload_n 3, 1) := by decide +kernel
theorem dL_law_132 : decode cL_law 132 = .ok (.iconst 2, 1) := by decide +kernel
theorem dL_law_133 : decode cL_law 133 = .ok (.iadd, 1) := by decide +kernel
theorem dL_law_134 : decode cL_law 134 = .ok (.iaload, 1) := by decide +kernel
theorem dL_law_135 : decode cL_law 135 = .ok (.aload_n 0, 1) := by decide +kernel
theorem dL_law_136 : decode cL_law 136 = .ok (.iload_n 3, 1) := by decide +kernel
theorem dL_law_137 : decode cL_law 137 = .ok (.iconst 3, 1) := by decide +kernel
theorem dL_law_138 : decode cL_law 138 = .ok (.iadd, 1) := by decide +kernel
theorem dL_law_139 : decode cL_law 139 = .ok (.iaload, 1) := by decide +kernel
theorem dL_law_140 : decode cL_law 140 = .ok (.invokevirtual 13, 3) := by decide +kernel
theorem dL_law_143 : decode cL_law 143 = .ok (.aload_n 2, 1) := by decide +kernel
theorem dL_law_144 : decode cL_law 144 = .ok (.aload_n 0, 1) := by decide +kernel
theorem dL_law_145 : decode cL_law 145 = .ok (.iload_n 3, 1) := by decide +kernel
theorem dL_law_146 : decode cL_law 146 = .ok (.iconst 1, 1) := by decide +kernel
theorem dL_law_147 : decode cL_law 147 = .ok (.iadd, 1) := by decide +kernel
theorem dL_law_148 : decode cL_law 148 = .ok (.iaload, 1) := by decide +kernel
theorem dL_law_149 : decode cL_law 149 = .ok (.aload_n 0, 1) := by decide +kernel
theorem dL_law_150 : decode cL_law 150 = .ok (.iload_n 3, 1) := by decide +kernel
theorem dL_law_151 : decode cL_law 151 = .ok (.iconst 2, 1) := by decide +kernel
theorem dL_law_152 : decode cL_law 152 = .ok (.iadd, 1) := by decide +kernel
theorem dL_law_153 : decode cL_law 153 = .ok (.iaload, 1) := by decide +kernel
theorem dL_law_154 : decode cL_law 154 = .ok (.aload_n 0, 1) := by decide +kernel
theorem dL_law_155 : decode cL_law 155 = .ok (.iload_n 3, 1) := by decide +kernel
theorem dL_law_156 : decode cL_law 156 = .ok (.iconst 3, 1) := by decide +kernel
theorem dL_law_157 : decode cL_law 157 = .ok (.iadd, 1) := by decide +kernel
theorem dL_law_158 : decode cL_law 158 = .ok (.iaload, 1) := by decide +kernel
theorem dL_law_159 : decode cL_law 159 = .ok (.invokevirtual 17, 3) := by decide +kernel
theorem dL_law_162 : decode cL_law 162 = .ok (.if_icmp .eq 739, 3) := by decide +kernel
theorem dL_law_165 : decode cL_law 165 = .ok (.iconst 0, 1) := by decide +kernel
theorem dL_law_166 : decode cL_law 166 = .ok (.ireturn, 1) := by decide +kernel
theorem dL_law_167 : decode cL_law 167 = .ok (.aload_n 1, 1) := by decide +kernel
theorem dL_law_168 : decode cL_law 168 = .ok (.aload_n 0, 1) := by decide +kernel
theorem dL_law_169 : decode cL_law 169 = .ok (.iload_n 3, 1) := by decide +kernel
theorem dL_law_170 : decode cL_law 170 = .ok (.iconst 1, 1) := by decide +kernel
theorem dL_law_171 : decode cL_law 171 = .ok (.iadd, 1) := by decide +kernel
theorem dL_law_172 : decode cL_law 172 = .ok (.iaload, 1) := by decide +kernel
theorem dL_law_173 : decode cL_law 173 = .ok (.aload_n 0, 1) := by decide +kernel
theorem dL_law_174 : decode cL_law 174 = .ok (.iload_n 3, 1) := by decide +kernel
theorem dL_law_175 : decode cL_law 175 = .ok (.iconst 2, 1) := by decide +kernel
theorem dL_law_176 : decode cL_law 176 = .ok (.iadd, 1) := by decide +kernel
theorem dL_law_177 : decode cL_law 177 = .ok (.iaload, 1) := by decide +kernel
theorem dL_law_178 : decode cL_law 178 = .ok (.aload_n 0, 1) := by decide +kernel
theorem dL_law_179 : decode cL_law 179 = .ok (.iload_n 3, 1) := by decide +kernel
theorem dL_law_180 : decode cL_law 180 = .ok (.iconst 3, 1) := by decide +kernel
theorem dL_law_181 : decode cL_law 181 = .ok (.iadd, 1) := by decide +kernel
theorem dL_law_182 : decode cL_law 182 = .ok (.iaload, 1) := by decide +kernel
theorem dL_law_183 : decode cL_law 183 = .ok (.invokevirtual 18, 3) := by decide +kernel
theorem dL_law_186 : decode cL_law 186 = .ok (.aload_n 2, 1) := by decide +kernel
theorem dL_law_187 : decode cL_law 187 = .ok (.aload_n 0, 1) := by decide +kernel
theorem dL_law_188 : decode cL_law 188 = .ok (.iload_n 3, 1) := by decide +kernel
theorem dL_law_189 : decode cL_law 189 = .ok (.iconst 1, 1) := by decide +kernel
theorem dL_law_190 : decode cL_law 190 = .ok (.iadd, 1) := by decide +kernel
theorem dL_law_191 : decode cL_law 191 = .ok (.iaload, 1) := by decide +kernel
theorem dL_law_192 : decode cL_law 192 = .ok (.aload_n 0, 1) := by decide +kernel
theorem dL_law_193 : decode cL_law 193 = .ok (.iload_n 3, 1) := by decide +kernel
theorem dL_law_194 : decode cL_law 194 = .ok (.iconst 2, 1) := by decide +kernel
theorem dL_law_195 : decode cL_law 195 = .ok (.iadd, 1) := by decide +kernel
theorem dL_law_196 : decode cL_law 196 = .ok (.iaload, 1) := by decide +kernel
theorem dL_law_197 : decode cL_law 197 = .ok (.aload_n 0, 1) := by decide +kernel
theorem dL_law_198 : decode cL_law 198 = .ok (.iload_n 3, 1) := by decide +kernel
theorem dL_law_199 : decode cL_law 199 = .ok (.iconst 3, 1) := by decide +kernel
theorem dL_law_200 : decode cL_law 200 = .ok (.iadd, 1) := by decide +kernel
theorem dL_law_201 : decode cL_law 201 = .ok (.iaload, 1) := by decide +kernel
theorem dL_law_202 : decode cL_law 202 = .ok (.invokevirtual 21, 3) := by decide +kernel
theorem dL_law_205 : decode cL_law 205 = .ok (.if_icmp .eq 696, 3) := by decide +kernel
theorem dL_law_208 : decode cL_law 208 = .ok (.iconst 0, 1) := by decide +kernel
theorem dL_law_209 : decode cL_law 209 = .ok (.ireturn, 1) := by decide +kernel
theorem dL_law_210 : decode cL_law 210 = .ok (.aload_n 1, 1) := by decide +kernel
theorem dL_law_211 : decode cL_law 211 = .ok (.aload_n 0, 1) := by decide +kernel
theorem dL_law_212 : decode cL_law 212 = .ok (.iload_n 3, 1) := by decide +kernel
theorem dL_law_213 : decode cL_law 213 = .ok (.iconst 1, 1) := by decide +kernel
theorem dL_law_214 : decode cL_law 214 = .ok (.iadd, 1) := by decide +kernel
theorem dL_law_215 : decode cL_law 215 = .ok (.iaload, 1) := by decide +kernel
theorem dL_law_216 : decode cL_law 216 = .ok (.aload_n 0, 1) := by decide +kernel
theorem dL_law_217 : decode cL_law 217 = .ok (.iload_n 3, 1) := by decide +kernel
theorem dL_law_218 : decode cL_law 218 = .ok (.iconst 2, 1) := by decide +kernel
theorem dL_law_219 : decode cL_law 219 = .ok (.iadd, 1) := by decide +kernel
theorem dL_law_220 : decode cL_law 220 = .ok (.iaload, 1) := by decide +kernel
theorem dL_law_221 : decode cL_law 221 = .ok (.invokevirtual 22, 3) := by decide +kernel
theorem dL_law_224 : decode cL_law 224 = .ok (.aload_n 2, 1) := by decide +kernel
theorem dL_law_225 : decode cL_law 225 = .ok (.aload_n 0, 1) := by decide +kernel
theorem dL_law_226 : decode cL_law 226 = .ok (.iload_n 3, 1) := by decide +kernel
theorem dL_law_227 : decode cL_law 227 = .ok (.iconst 1, 1) := by decide +kernel
theorem dL_law_228 : decode cL_law 228 = .ok (.iadd, 1) := by decide +kernel
theorem dL_law_229 : decode cL_law 229 = .ok (.iaload, 1) := by decide +kernel
theorem dL_law_230 : decode cL_law 230 = .ok (.aload_n 0, 1) := by decide +kernel
theorem dL_law_231 : decode cL_law 231 = .ok (.iload_n 3, 1) := by decide +kernel
theorem dL_law_232 : decode cL_law 232 = .ok (.iconst 2, 1) := by decide +kernel
theorem dL_law_233 : decode cL_law 233 = .ok (.iadd, 1) := by decide +kernel
theorem dL_law_234 : decode cL_law 234 = .ok (.iaload, 1) := by decide +kernel
theorem dL_law_235 : decode cL_law 235 = .ok (.invokevirtual 26, 3) := by decide +kernel
theorem dL_law_238 : decode cL_law 238 = .ok (.if_icmp .eq 663, 3) := by decide +kernel
theorem dL_law_241 : decode cL_law 241 = .ok (.iconst 0, 1) := by decide +kernel
theorem dL_law_242 : decode cL_law 242 = .ok (.ireturn, 1) := by decide +kernel
theorem dL_law_243 : decode cL_law 243 = .ok (.aload_n 1, 1) := by decide +kernel
theorem dL_law_244 : decode cL_law 244 = .ok (.aload_n 0, 1) := by decide +kernel
theorem dL_law_245 : decode cL_law 245 = .ok (.iload_n 3, 1) := by decide +kernel
theorem dL_law_246 : decode cL_law 246 = .ok (.iconst 1, 1) := by decide +kernel
theorem dL_law_247 : decode cL_law 247 = .ok (.iadd, 1) := by decide +kernel
theorem dL_law_248 : decode cL_law 248 = .ok (.iaload, 1) := by decide +kernel
theorem dL_law_249 : decode cL_law 249 = .ok (.aload_n 0, 1) := by decide +kernel
theorem dL_law_250 : decode cL_law 250 = .ok (.iload_n 3, 1) := by decide +kernel
theorem dL_law_251 : decode cL_law 251 = .ok (.iconst 2, 1) := by decide +kernel
theorem dL_law_252 : decode cL_law 252 = .ok (.iadd, 1) := by decide +kernel
theorem dL_law_253 : decode cL_law 253 = .ok (.iaload, 1) := by decide +kernel
theorem dL_law_254 : decode cL_law 254 = .ok (.invokevirtual 27, 3) := by decide +kernel
theorem dL_law_257 : decode cL_law 257 = .ok (.aload_n 2, 1) := by decide +kernel
theorem dL_law_258 : decode cL_law 258 = .ok (.aload_n 0, 1) := by decide +kernel
theorem dL_law_259 : decode cL_law 259 = .ok (.iload_n 3, 1) := by decide +kernel
theorem dL_law_260 : decode cL_law 260 = .ok (.iconst 1, 1) := by decide +kernel
theorem dL_law_261 : decode cL_law 261 = .ok (.iadd, 1) := by decide +kernel
theorem dL_law_262 : decode cL_law 262 = .ok (.iaload, 1) := by decide +kernel
theorem dL_law_263 : decode cL_law 263 = .ok (.aload_n 0, 1) := by decide +kernel
theorem dL_law_264 : decode cL_law 264 = .ok (.iload_n 3, 1) := by decide +kernel
theorem dL_law_265 : decode cL_law 265 = .ok (.iconst 2, 1) := by decide +kernel
theorem dL_law_266 : decode cL_law 266 = .ok (.iadd, 1) := by decide +kernel
theorem dL_law_267 : decode cL_law 267 = .ok (.iaload, 1) := by decide +kernel
theorem dL_law_268 : decode cL_law 268 = .ok (.invokevirtual 30, 3) := by decide +kernel
theorem dL_law_271 : decode cL_law 271 = .ok (.if_icmp .eq 630, 3) := by decide +kernel
theorem dL_law_274 : decode cL_law 274 = .ok (.iconst 0, 1) := by decide +kernel
theorem dL_law_275 : decode cL_law 275 = .ok (.ireturn, 1) := by decide +kernel
theorem dL_law_276 : decode cL_law 276 = .ok (.aload_n 1, 1) := by decide +kernel
theorem dL_law_277 : decode cL_law 277 = .ok (.aload_n 0, 1) := by decide +kernel
theorem dL_law_278 : decode cL_law 278 = .ok (.iload_n 3, 1) := by decide +kernel
theorem dL_law_279 : decode cL_law 279 = .ok (.iconst 1, 1) := by decide +kernel
theorem dL_law_280 : decode cL_law 280 = .ok (.iadd, 1) := by decide +kernel
theorem dL_law_281 : decode cL_law 281 = .ok (.iaload, 1) := by decide +kernel
theorem dL_law_282 : decode cL_law 282 = .ok (.aload_n 0, 1) := by decide +kernel
theorem dL_law_283 : decode cL_law 283 = .ok (.iload_n 3, 1) := by decide +kernel
theorem dL_law_284 : decode cL_law 284 = .ok (.iconst 2, 1) := by decide +kernel
theorem dL_law_285 : decode cL_law 285 = .ok (.iadd, 1) := by decide +kernel
theorem dL_law_286 : decode cL_law 286 = .ok (.iaload, 1) := by decide +kernel
theorem dL_law_287 : decode cL_law 287 = .ok (.invokevirtual 31, 3) := by decide +kernel
theorem dL_law_290 : decode cL_law 290 = .ok (.aload_n 2, 1) := by decide +kernel
theorem dL_law_291 : decode cL_law 291 = .ok (.aload_n 0, 1) := by decide +kernel
theorem dL_law_292 : decode cL_law 292 = .ok (.iload_n 3, 1) := by decide +kernel
theorem dL_law_293 : decode cL_law 293 = .ok (.iconst 1, 1) := by decide +kernel
theorem dL_law_294 : decode cL_law 294 = .ok (.iadd, 1) := by decide +kernel
theorem dL_law_295 : decode cL_law 295 = .ok (.iaload, 1) := by decide +kernel
theorem dL_law_296 : decode cL_law 296 = .ok (.aload_n 0, 1) := by decide +kernel
theorem dL_law_297 : decode cL_law 297 = .ok (.iload_n 3, 1) := by decide +kernel
theorem dL_law_298 : decode cL_law 298 = .ok (.iconst 2, 1) := by decide +kernel
theorem dL_law_299 : decode cL_law 299 = .ok (.iadd, 1) := by decide +kernel
theorem dL_law_300 : decode cL_law 300 = .ok (.iaload, 1) := by decide +kernel
theorem dL_law_301 : decode cL_law 301 = .ok (.invokevirtual 34, 3) := by decide +kernel
theorem dL_law_304 : decode cL_law 304 = .ok (.if_icmp .eq 597, 3) := by decide +kernel
theorem dL_law_307 : decode cL_law 307 = .ok (.iconst 0, 1) := by decide +kernel
theorem dL_law_308 : decode cL_law 308 = .ok (.ireturn, 1) := by decide +kernel
theorem dL_law_309 : decode cL_law 309 = .ok (.aload_n 1, 1) := by decide +kernel
theorem dL_law_310 : decode cL_law 310 = .ok (.aload_n 0, 1) := by decide +kernel
theorem dL_law_311 : decode cL_law 311 = .ok (.iload_n 3, 1) := by decide +kernel
theorem dL_law_312 : decode cL_law 312 = .ok (.iconst 1, 1) := by decide +kernel
theorem dL_law_313 : decode cL_law 313 = .ok (.iadd, 1) := by decide +kernel
theorem dL_law_314 : decode cL_law 314 = .ok (.iaload, 1) := by decide +kernel
theorem dL_law_315 : decode cL_law 315 = .ok (.aload_n 0, 1) := by decide +kernel
theorem dL_law_316 : decode cL_law 316 = .ok (.iload_n 3, 1) := by decide +kernel
theorem dL_law_317 : decode cL_law 317 = .ok (.iconst 2, 1) := by decide +kernel
theorem dL_law_318 : decode cL_law 318 = .ok (.iadd, 1) := by decide +kernel
theorem dL_law_319 : decode cL_law 319 = .ok (.iaload, 1) := by decide +kernel
theorem dL_law_320 : decode cL_law 320 = .ok (.aload_n 0, 1) := by decide +kernel
theorem dL_law_321 : decode cL_law 321 = .ok (.iload_n 3, 1) := by decide +kernel
theorem dL_law_322 : decode cL_law 322 = .ok (.iconst 3, 1) := by decide +kernel
theorem dL_law_323 : decode cL_law 323 = .ok (.iadd, 1) := by decide +kernel
theorem dL_law_324 : decode cL_law 324 = .ok (.iaload, 1) := by decide +kernel
theorem dL_law_325 : decode cL_law 325 = .ok (.aload_n 0, 1) := by decide +kernel
theorem dL_law_326 : decode cL_law 326 = .ok (.iload_n 3, 1) := by decide +kernel
theorem dL_law_327 : decode cL_law 327 = .ok (.iconst 4, 1) := by decide +kernel
theorem dL_law_328 : decode cL_law 328 = .ok (.iadd, 1) := by decide +kernel
theorem dL_law_329 : decode cL_law 329 = .ok (.iaload, 1) := by decide +kernel
theorem dL_law_330 : decode cL_law 330 = .ok (.invokevirtual 35, 3) := by decide +kernel
theorem dL_law_333 : decode cL_law 333 = .ok (.aload_n 2, 1) := by decide +kernel
theorem dL_law_334 : decode cL_law 334 = .ok (.aload_n 0, 1) := by decide +kernel
theorem dL_law_335 : decode cL_law 335 = .ok (.iload_n 3, 1) := by decide +kernel
theorem dL_law_336 : decode cL_law 336 = .ok (.iconst 1, 1) := by decide +kernel
theorem dL_law_337 : decode cL_law 337 = .ok (.iadd, 1) := by decide +kernel
theorem dL_law_338 : decode cL_law 338 = .ok (.iaload, 1) := by decide +kernel
theorem dL_law_339 : decode cL_law 339 = .ok (.aload_n 0, 1) := by decide +kernel
theorem dL_law_340 : decode cL_law 340 = .ok (.iload_n 3, 1) := by decide +kernel
theorem dL_law_341 : decode cL_law 341 = .ok (.iconst 2, 1) := by decide +kernel
theorem dL_law_342 : decode cL_law 342 = .ok (.iadd, 1) := by decide +kernel
theorem dL_law_343 : decode cL_law 343 = .ok (.iaload, 1) := by decide +kernel
theorem dL_law_344 : decode cL_law 344 = .ok (.aload_n 0, 1) := by decide +kernel
theorem dL_law_345 : decode cL_law 345 = .ok (.iload_n 3, 1) := by decide +kernel
theorem dL_law_346 : decode cL_law 346 = .ok (.iconst 3, 1) := by decide +kernel
theorem dL_law_347 : decode cL_law 347 = .ok (.iadd, 1) := by decide +kernel
theorem dL_law_348 : decode cL_law 348 = .ok (.iaload, 1) := by decide +kernel
theorem dL_law_349 : decode cL_law 349 = .ok (.aload_n 0, 1) := by decide +kernel
theorem dL_law_350 : decode cL_law 350 = .ok (.iload_n 3, 1) := by decide +kernel
theorem dL_law_351 : decode cL_law 351 = .ok (.iconst 4, 1) := by decide +kernel
theorem dL_law_352 : decode cL_law 352 = .ok (.iadd, 1) := by decide +kernel
theorem dL_law_353 : decode cL_law 353 = .ok (.iaload, 1) := by decide +kernel
theorem dL_law_354 : decode cL_law 354 = .ok (.invokevirtual 39, 3) := by decide +kernel
theorem dL_law_357 : decode cL_law 357 = .ok (.if_icmp .eq 544, 3) := by decide +kernel
theorem dL_law_360 : decode cL_law 360 = .ok (.iconst 0, 1) := by decide +kernel
theorem dL_law_361 : decode cL_law 361 = .ok (.ireturn, 1) := by decide +kernel
theorem dL_law_362 : decode cL_law 362 = .ok (.aload_n 1, 1) := by decide +kernel
theorem dL_law_363 : decode cL_law 363 = .ok (.aload_n 0, 1) := by decide +kernel
theorem dL_law_364 : decode cL_law 364 = .ok (.iload_n 3, 1) := by decide +kernel
theorem dL_law_365 : decode cL_law 365 = .ok (.iconst 1, 1) := by decide +kernel
theorem dL_law_366 : decode cL_law 366 = .ok (.iadd, 1) := by decide +kernel
theorem dL_law_367 : decode cL_law 367 = .ok (.iaload, 1) := by decide +kernel
theorem dL_law_368 : decode cL_law 368 = .ok (.aload_n 0, 1) := by decide +kernel
theorem dL_law_369 : decode cL_law 369 = .ok (.iload_n 3, 1) := by decide +kernel
theorem dL_law_370 : decode cL_law 370 = .ok (.iconst 2, 1) := by decide +kernel
theorem dL_law_371 : decode cL_law 371 = .ok (.iadd, 1) := by decide +kernel
theorem dL_law_372 : decode cL_law 372 = .ok (.iaload, 1) := by decide +kernel
theorem dL_law_373 : decode cL_law 373 = .ok (.aload_n 0, 1) := by decide +kernel
theorem dL_law_374 : decode cL_law 374 = .ok (.iload_n 3, 1) := by decide +kernel
theorem dL_law_375 : decode cL_law 375 = .ok (.iconst 3, 1) := by decide +kernel
theorem dL_law_376 : decode cL_law 376 = .ok (.iadd, 1) := by decide +kernel
theorem dL_law_377 : decode cL_law 377 = .ok (.iaload, 1) := by decide +kernel
theorem dL_law_378 : decode cL_law 378 = .ok (.invokevirtual 40, 3) := by decide +kernel
theorem dL_law_381 : decode cL_law 381 = .ok (.aload_n 2, 1) := by decide +kernel
theorem dL_law_382 : decode cL_law 382 = .ok (.aload_n 0, 1) := by decide +kernel
theorem dL_law_383 : decode cL_law 383 = .ok (.iload_n 3, 1) := by decide +kernel
theorem dL_law_384 : decode cL_law 384 = .ok (.iconst 1, 1) := by decide +kernel
theorem dL_law_385 : decode cL_law 385 = .ok (.iadd, 1) := by decide +kernel
theorem dL_law_386 : decode cL_law 386 = .ok (.iaload, 1) := by decide +kernel
theorem dL_law_387 : decode cL_law 387 = .ok (.aload_n 0, 1) := by decide +kernel
theorem dL_law_388 : decode cL_law 388 = .ok (.iload_n 3, 1) := by decide +kernel
theorem dL_law_389 : decode cL_law 389 = .ok (.iconst 2, 1) := by decide +kernel
theorem dL_law_390 : decode cL_law 390 = .ok (.iadd, 1) := by decide +kernel
theorem dL_law_391 : decode cL_law 391 = .ok (.iaload, 1) := by decide +kernel
theorem dL_law_392 : decode cL_law 392 = .ok (.aload_n 0, 1) := by decide +kernel
theorem dL_law_393 : decode cL_law 393 = .ok (.iload_n 3, 1) := by decide +kernel
theorem dL_law_394 : decode cL_law 394 = .ok (.iconst 3, 1) := by decide +kernel
theorem dL_law_395 : decode cL_law 395 = .ok (.iadd, 1) := by decide +kernel
theorem dL_law_396 : decode cL_law 396 = .ok (.iaload, 1) := by decide +kernel
theorem dL_law_397 : decode cL_law 397 = .ok (.invokevirtual 43, 3) := by decide +kernel
theorem dL_law_400 : decode cL_law 400 = .ok (.if_icmp .eq 501, 3) := by decide +kernel
theorem dL_law_403 : decode cL_law 403 = .ok (.iconst 0, 1) := by decide +kernel
theorem dL_law_404 : decode cL_law 404 = .ok (.ireturn, 1) := by decide +kernel
theorem dL_law_405 : decode cL_law 405 = .ok (.aload_n 1, 1) := by decide +kernel
theorem dL_law_406 : decode cL_law 406 = .ok (.aload_n 0, 1) := by decide +kernel
theorem dL_law_407 : decode cL_law 407 = .ok (.iload_n 3, 1) := by decide +kernel
theorem dL_law_408 : decode cL_law 408 = .ok (.iconst 1, 1) := by decide +kernel
theorem dL_law_409 : decode cL_law 409 = .ok (.iadd, 1) := by decide +kernel
theorem dL_law_410 : decode cL_law 410 = .ok (.iaload, 1) := by decide +kernel
theorem dL_law_411 : decode cL_law 411 = .ok (.aload_n 0, 1) := by decide +kernel
theorem dL_law_412 : decode cL_law 412 = .ok (.iload_n 3, 1) := by decide +kernel
theorem dL_law_413 : decode cL_law 413 = .ok (.iconst 2, 1) := by decide +kernel
theorem dL_law_414 : decode cL_law 414 = .ok (.iadd, 1) := by decide +kernel
theorem dL_law_415 : decode cL_law 415 = .ok (.iaload, 1) := by decide +kernel
theorem dL_law_416 : decode cL_law 416 = .ok (.aload_n 0, 1) := by decide +kernel
theorem dL_law_417 : decode cL_law 417 = .ok (.iload_n 3, 1) := by decide +kernel
theorem dL_law_418 : decode cL_law 418 = .ok (.iconst 3, 1) := by decide +kernel
theorem dL_law_419 : decode cL_law 419 = .ok (.iadd, 1) := by decide +kernel
theorem dL_law_420 : decode cL_law 420 = .ok (.iaload, 1) := by decide +kernel
theorem dL_law_421 : decode cL_law 421 = .ok (.invokevirtual 44, 3) := by decide +kernel
theorem dL_law_424 : decode cL_law 424 = .ok (.aload_n 2, 1) := by decide +kernel
theorem dL_law_425 : decode cL_law 425 = .ok (.aload_n 0, 1) := by decide +kernel
theorem dL_law_426 : decode cL_law 426 = .ok (.iload_n 3, 1) := by decide +kernel
theorem dL_law_427 : decode cL_law 427 = .ok (.iconst 1, 1) := by decide +kernel
theorem dL_law_428 : decode cL_law 428 = .ok (.iadd, 1) := by decide +kernel
theorem dL_law_429 : decode cL_law 429 = .ok (.iaload, 1) := by decide +kernel
theorem dL_law_430 : decode cL_law 430 = .ok (.aload_n 0, 1) := by decide +kernel
theorem dL_law_431 : decode cL_law 431 = .ok (.iload_n 3, 1) := by decide +kernel
theorem dL_law_432 : decode cL_law 432 = .ok (.iconst 2, 1) := by decide +kernel
theorem dL_law_433 : decode cL_law 433 = .ok (.iadd, 1) := by decide +kernel
theorem dL_law_434 : decode cL_law 434 = .ok (.iaload, 1) := by decide +kernel
theorem dL_law_435 : decode cL_law 435 = .ok (.aload_n 0, 1) := by decide +kernel
theorem dL_law_436 : decode cL_law 436 = .ok (.iload_n 3, 1) := by decide +kernel
theorem dL_law_437 : decode cL_law 437 = .ok (.iconst 3, 1) := by decide +kernel
theorem dL_law_438 : decode cL_law 438 = .ok (.iadd, 1) := by decide +kernel
theorem dL_law_439 : decode cL_law 439 = .ok (.iaload, 1) := by decide +kernel
theorem dL_law_440 : decode cL_law 440 = .ok (.invokevirtual 47, 3) := by decide +kernel
theorem dL_law_443 : decode cL_law 443 = .ok (.if_icmp .eq 458, 3) := by decide +kernel
theorem dL_law_446 : decode cL_law 446 = .ok (.iconst 0, 1) := by decide +kernel
theorem dL_law_447 : decode cL_law 447 = .ok (.ireturn, 1) := by decide +kernel
theorem dL_law_448 : decode cL_law 448 = .ok (.aload_n 1, 1) := by decide +kernel
theorem dL_law_449 : decode cL_law 449 = .ok (.aload_n 0, 1) := by decide +kernel
theorem dL_law_450 : decode cL_law 450 = .ok (.iload_n 3, 1) := by decide +kernel
theorem dL_law_451 : decode cL_law 451 = .ok (.iconst 1, 1) := by decide +kernel
theorem dL_law_452 : decode cL_law 452 = .ok (.iadd, 1) := by decide +kernel
theorem dL_law_453 : decode cL_law 453 = .ok (.iaload, 1) := by decide +kernel
theorem dL_law_454 : decode cL_law 454 = .ok (.invokevirtual 48, 3) := by decide +kernel
theorem dL_law_457 : decode cL_law 457 = .ok (.aload_n 2, 1) := by decide +kernel
theorem dL_law_458 : decode cL_law 458 = .ok (.aload_n 0, 1) := by decide +kernel
theorem dL_law_459 : decode cL_law 459 = .ok (.iload_n 3, 1) := by decide +kernel
theorem dL_law_460 : decode cL_law 460 = .ok (.iconst 1, 1) := by decide +kernel
theorem dL_law_461 : decode cL_law 461 = .ok (.iadd, 1) := by decide +kernel
theorem dL_law_462 : decode cL_law 462 = .ok (.iaload, 1) := by decide +kernel
theorem dL_law_463 : decode cL_law 463 = .ok (.invokevirtual 52, 3) := by decide +kernel
theorem dL_law_466 : decode cL_law 466 = .ok (.if_icmp .eq 435, 3) := by decide +kernel
theorem dL_law_469 : decode cL_law 469 = .ok (.iconst 0, 1) := by decide +kernel
theorem dL_law_470 : decode cL_law 470 = .ok (.ireturn, 1) := by decide +kernel
theorem dL_law_471 : decode cL_law 471 = .ok (.aload_n 1, 1) := by decide +kernel
theorem dL_law_472 : decode cL_law 472 = .ok (.aload_n 0, 1) := by decide +kernel
theorem dL_law_473 : decode cL_law 473 = .ok (.iload_n 3, 1) := by decide +kernel
theorem dL_law_474 : decode cL_law 474 = .ok (.iconst 1, 1) := by decide +kernel
theorem dL_law_475 : decode cL_law 475 = .ok (.iadd, 1) := by decide +kernel
theorem dL_law_476 : decode cL_law 476 = .ok (.iaload, 1) := by decide +kernel
theorem dL_law_477 : decode cL_law 477 = .ok (.aload_n 0, 1) := by decide +kernel
theorem dL_law_478 : decode cL_law 478 = .ok (.iload_n 3, 1) := by decide +kernel
theorem dL_law_479 : decode cL_law 479 = .ok (.iconst 2, 1) := by decide +kernel
theorem dL_law_480 : decode cL_law 480 = .ok (.iadd, 1) := by decide +kernel
theorem dL_law_481 : decode cL_law 481 = .ok (.iaload, 1) := by decide +kernel
theorem dL_law_482 : decode cL_law 482 = .ok (.aload_n 0, 1) := by decide +kernel
theorem dL_law_483 : decode cL_law 483 = .ok (.iload_n 3, 1) := by decide +kernel
theorem dL_law_484 : decode cL_law 484 = .ok (.iconst 3, 1) := by decide +kernel
theorem dL_law_485 : decode cL_law 485 = .ok (.iadd, 1) := by decide +kernel
theorem dL_law_486 : decode cL_law 486 = .ok (.iaload, 1) := by decide +kernel
theorem dL_law_487 : decode cL_law 487 = .ok (.invokevirtual 53, 3) := by decide +kernel
theorem dL_law_490 : decode cL_law 490 = .ok (.aload_n 2, 1) := by decide +kernel
theorem dL_law_491 : decode cL_law 491 = .ok (.aload_n 0, 1) := by decide +kernel
theorem dL_law_492 : decode cL_law 492 = .ok (.iload_n 3, 1) := by decide +kernel
theorem dL_law_493 : decode cL_law 493 = .ok (.iconst 1, 1) := by decide +kernel
theorem dL_law_494 : decode cL_law 494 = .ok (.iadd, 1) := by decide +kernel
theorem dL_law_495 : decode cL_law 495 = .ok (.iaload, 1) := by decide +kernel
theorem dL_law_496 : decode cL_law 496 = .ok (.aload_n 0, 1) := by decide +kernel
theorem dL_law_497 : decode cL_law 497 = .ok (.iload_n 3, 1) := by decide +kernel
theorem dL_law_498 : decode cL_law 498 = .ok (.iconst 2, 1) := by decide +kernel
theorem dL_law_499 : decode cL_law 499 = .ok (.iadd, 1) := by decide +kernel
theorem dL_law_500 : decode cL_law 500 = .ok (.iaload, 1) := by decide +kernel
theorem dL_law_501 : decode cL_law 501 = .ok (.aload_n 0, 1) := by decide +kernel
theorem dL_law_502 : decode cL_law 502 = .ok (.iload_n 3, 1) := by decide +kernel
theorem dL_law_503 : decode cL_law 503 = .ok (.iconst 3, 1) := by decide +kernel
theorem dL_law_504 : decode cL_law 504 = .ok (.iadd, 1) := by decide +kernel
theorem dL_law_505 : decode cL_law 505 = .ok (.iaload, 1) := by decide +kernel
theorem dL_law_506 : decode cL_law 506 = .ok (.invokevirtual 56, 3) := by decide +kernel
theorem dL_law_509 : decode cL_law 509 = .ok (.if_icmp .eq 392, 3) := by decide +kernel
theorem dL_law_512 : decode cL_law 512 = .ok (.iconst 0, 1) := by decide +kernel
theorem dL_law_513 : decode cL_law 513 = .ok (.ireturn, 1) := by decide +kernel
theorem dL_law_514 : decode cL_law 514 = .ok (.aload_n 1, 1) := by decide +kernel
theorem dL_law_515 : decode cL_law 515 = .ok (.aload_n 0, 1) := by decide +kernel
theorem dL_law_516 : decode cL_law 516 = .ok (.iload_n 3, 1) := by decide +kernel
theorem dL_law_517 : decode cL_law 517 = .ok (.iconst 1, 1) := by decide +kernel
theorem dL_law_518 : decode cL_law 518 = .ok (.iadd, 1) := by decide +kernel
theorem dL_law_519 : decode cL_law 519 = .ok (.iaload, 1) := by decide +kernel
theorem dL_law_520 : decode cL_law 520 = .ok (.aload_n 0, 1) := by decide +kernel
theorem dL_law_521 : decode cL_law 521 = .ok (.iload_n 3, 1) := by decide +kernel
theorem dL_law_522 : decode cL_law 522 = .ok (.iconst 2, 1) := by decide +kernel
theorem dL_law_523 : decode cL_law 523 = .ok (.iadd, 1) := by decide +kernel
theorem dL_law_524 : decode cL_law 524 = .ok (.iaload, 1) := by decide +kernel
theorem dL_law_525 : decode cL_law 525 = .ok (.aload_n 0, 1) := by decide +kernel
theorem dL_law_526 : decode cL_law 526 = .ok (.iload_n 3, 1) := by decide +kernel
theorem dL_law_527 : decode cL_law 527 = .ok (.iconst 3, 1) := by decide +kernel
theorem dL_law_528 : decode cL_law 528 = .ok (.iadd, 1) := by decide +kernel
theorem dL_law_529 : decode cL_law 529 = .ok (.iaload, 1) := by decide +kernel
theorem dL_law_530 : decode cL_law 530 = .ok (.invokevirtual 57, 3) := by decide +kernel
theorem dL_law_533 : decode cL_law 533 = .ok (.aload_n 2, 1) := by decide +kernel
theorem dL_law_534 : decode cL_law 534 = .ok (.aload_n 0, 1) := by decide +kernel
theorem dL_law_535 : decode cL_law 535 = .ok (.iload_n 3, 1) := by decide +kernel
theorem dL_law_536 : decode cL_law 536 = .ok (.iconst 1, 1) := by decide +kernel
theorem dL_law_537 : decode cL_law 537 = .ok (.iadd, 1) := by decide +kernel
theorem dL_law_538 : decode cL_law 538 = .ok (.iaload, 1) := by decide +kernel
theorem dL_law_539 : decode cL_law 539 = .ok (.aload_n 0, 1) := by decide +kernel
theorem dL_law_540 : decode cL_law 540 = .ok (.iload_n 3, 1) := by decide +kernel
theorem dL_law_541 : decode cL_law 541 = .ok (.iconst 2, 1) := by decide +kernel
theorem dL_law_542 : decode cL_law 542 = .ok (.iadd, 1) := by decide +kernel
theorem dL_law_543 : decode cL_law 543 = .ok (.iaload, 1) := by decide +kernel
theorem dL_law_544 : decode cL_law 544 = .ok (.aload_n 0, 1) := by decide +kernel
theorem dL_law_545 : decode cL_law 545 = .ok (.iload_n 3, 1) := by decide +kernel
theorem dL_law_546 : decode cL_law 546 = .ok (.iconst 3, 1) := by decide +kernel
theorem dL_law_547 : decode cL_law 547 = .ok (.iadd, 1) := by decide +kernel
theorem dL_law_548 : decode cL_law 548 = .ok (.iaload, 1) := by decide +kernel
theorem dL_law_549 : decode cL_law 549 = .ok (.invokevirtual 60, 3) := by decide +kernel
theorem dL_law_552 : decode cL_law 552 = .ok (.if_icmp .eq 349, 3) := by decide +kernel
theorem dL_law_555 : decode cL_law 555 = .ok (.iconst 0, 1) := by decide +kernel
theorem dL_law_556 : decode cL_law 556 = .ok (.ireturn, 1) := by decide +kernel
theorem dL_law_557 : decode cL_law 557 = .ok (.aload_n 1, 1) := by decide +kernel
theorem dL_law_558 : decode cL_law 558 = .ok (.aload_n 0, 1) := by decide +kernel
theorem dL_law_559 : decode cL_law 559 = .ok (.iload_n 3, 1) := by decide +kernel
theorem dL_law_560 : decode cL_law 560 = .ok (.iconst 1, 1) := by decide +kernel
theorem dL_law_561 : decode cL_law 561 = .ok (.iadd, 1) := by decide +kernel
theorem dL_law_562 : decode cL_law 562 = .ok (.iaload, 1) := by decide +kernel
theorem dL_law_563 : decode cL_law 563 = .ok (.aload_n 0, 1) := by decide +kernel
theorem dL_law_564 : decode cL_law 564 = .ok (.iload_n 3, 1) := by decide +kernel
theorem dL_law_565 : decode cL_law 565 = .ok (.iconst 2, 1) := by decide +kernel
theorem dL_law_566 : decode cL_law 566 = .ok (.iadd, 1) := by decide +kernel
theorem dL_law_567 : decode cL_law 567 = .ok (.iaload, 1) := by decide +kernel
theorem dL_law_568 : decode cL_law 568 = .ok (.invokevirtual 61, 3) := by decide +kernel
theorem dL_law_571 : decode cL_law 571 = .ok (.aload_n 2, 1) := by decide +kernel
theorem dL_law_572 : decode cL_law 572 = .ok (.aload_n 0, 1) := by decide +kernel
theorem dL_law_573 : decode cL_law 573 = .ok (.iload_n 3, 1) := by decide +kernel
theorem dL_law_574 : decode cL_law 574 = .ok (.iconst 1, 1) := by decide +kernel
theorem dL_law_575 : decode cL_law 575 = .ok (.iadd, 1) := by decide +kernel
theorem dL_law_576 : decode cL_law 576 = .ok (.iaload, 1) := by decide +kernel
theorem dL_law_577 : decode cL_law 577 = .ok (.aload_n 0, 1) := by decide +kernel
theorem dL_law_578 : decode cL_law 578 = .ok (.iload_n 3, 1) := by decide +kernel
theorem dL_law_579 : decode cL_law 579 = .ok (.iconst 2, 1) := by decide +kernel
theorem dL_law_580 : decode cL_law 580 = .ok (.iadd, 1) := by decide +kernel
theorem dL_law_581 : decode cL_law 581 = .ok (.iaload, 1) := by decide +kernel
theorem dL_law_582 : decode cL_law 582 = .ok (.invokevirtual 64, 3) := by decide +kernel
theorem dL_law_585 : decode cL_law 585 = .ok (.if_icmp .eq 316, 3) := by decide +kernel
theorem dL_law_588 : decode cL_law 588 = .ok (.iconst 0, 1) := by decide +kernel
theorem dL_law_589 : decode cL_law 589 = .ok (.ireturn, 1) := by decide +kernel
theorem dL_law_590 : decode cL_law 590 = .ok (.aload_n 1, 1) := by decide +kernel
theorem dL_law_591 : decode cL_law 591 = .ok (.aload_n 0, 1) := by decide +kernel
theorem dL_law_592 : decode cL_law 592 = .ok (.iload_n 3, 1) := by decide +kernel
theorem dL_law_593 : decode cL_law 593 = .ok (.iconst 1, 1) := by decide +kernel
theorem dL_law_594 : decode cL_law 594 = .ok (.iadd, 1) := by decide +kernel
theorem dL_law_595 : decode cL_law 595 = .ok (.iaload, 1) := by decide +kernel
theorem dL_law_596 : decode cL_law 596 = .ok (.aload_n 0, 1) := by decide +kernel
theorem dL_law_597 : decode cL_law 597 = .ok (.iload_n 3, 1) := by decide +kernel
theorem dL_law_598 : decode cL_law 598 = .ok (.iconst 2, 1) := by decide +kernel
theorem dL_law_599 : decode cL_law 599 = .ok (.iadd, 1) := by decide +kernel
theorem dL_law_600 : decode cL_law 600 = .ok (.iaload, 1) := by decide +kernel
theorem dL_law_601 : decode cL_law 601 = .ok (.aload_n 0, 1) := by decide +kernel
theorem dL_law_602 : decode cL_law 602 = .ok (.iload_n 3, 1) := by decide +kernel
theorem dL_law_603 : decode cL_law 603 = .ok (.iconst 3, 1) := by decide +kernel
theorem dL_law_604 : decode cL_law 604 = .ok (.iadd, 1) := by decide +kernel
theorem dL_law_605 : decode cL_law 605 = .ok (.iaload, 1) := by decide +kernel
theorem dL_law_606 : decode cL_law 606 = .ok (.aload_n 0, 1) := by decide +kernel
theorem dL_law_607 : decode cL_law 607 = .ok (.iload_n 3, 1) := by decide +kernel
theorem dL_law_608 : decode cL_law 608 = .ok (.iconst 4, 1) := by decide +kernel
theorem dL_law_609 : decode cL_law 609 = .ok (.iadd, 1) := by decide +kernel
theorem dL_law_610 : decode cL_law 610 = .ok (.iaload, 1) := by decide +kernel
theorem dL_law_611 : decode cL_law 611 = .ok (.invokevirtual 65, 3) := by decide +kernel
theorem dL_law_614 : decode cL_law 614 = .ok (.aload_n 2, 1) := by decide +kernel
theorem dL_law_615 : decode cL_law 615 = .ok (.aload_n 0, 1) := by decide +kernel
theorem dL_law_616 : decode cL_law 616 = .ok (.iload_n 3, 1) := by decide +kernel
theorem dL_law_617 : decode cL_law 617 = .ok (.iconst 1, 1) := by decide +kernel
theorem dL_law_618 : decode cL_law 618 = .ok (.iadd, 1) := by decide +kernel
theorem dL_law_619 : decode cL_law 619 = .ok (.iaload, 1) := by decide +kernel
theorem dL_law_620 : decode cL_law 620 = .ok (.aload_n 0, 1) := by decide +kernel
theorem dL_law_621 : decode cL_law 621 = .ok (.iload_n 3, 1) := by decide +kernel
theorem dL_law_622 : decode cL_law 622 = .ok (.iconst 2, 1) := by decide +kernel
theorem dL_law_623 : decode cL_law 623 = .ok (.iadd, 1) := by decide +kernel
theorem dL_law_624 : decode cL_law 624 = .ok (.iaload, 1) := by decide +kernel
theorem dL_law_625 : decode cL_law 625 = .ok (.aload_n 0, 1) := by decide +kernel
theorem dL_law_626 : decode cL_law 626 = .ok (.iload_n 3, 1) := by decide +kernel
theorem dL_law_627 : decode cL_law 627 = .ok (.iconst 3, 1) := by decide +kernel
theorem dL_law_628 : decode cL_law 628 = .ok (.iadd, 1) := by decide +kernel
theorem dL_law_629 : decode cL_law 629 = .ok (.iaload, 1) := by decide +kernel
theorem dL_law_630 : decode cL_law 630 = .ok (.aload_n 0, 1) := by decide +kernel
theorem dL_law_631 : decode cL_law 631 = .ok (.iload_n 3, 1) := by decide +kernel
theorem dL_law_632 : decode cL_law 632 = .ok (.iconst 4, 1) := by decide +kernel
theorem dL_law_633 : decode cL_law 633 = .ok (.iadd, 1) := by decide +kernel
theorem dL_law_634 : decode cL_law 634 = .ok (.iaload, 1) := by decide +kernel
theorem dL_law_635 : decode cL_law 635 = .ok (.invokevirtual 68, 3) := by decide +kernel
theorem dL_law_638 : decode cL_law 638 = .ok (.if_icmp .eq 263, 3) := by decide +kernel
theorem dL_law_641 : decode cL_law 641 = .ok (.iconst 0, 1) := by decide +kernel
theorem dL_law_642 : decode cL_law 642 = .ok (.ireturn, 1) := by decide +kernel
theorem dL_law_643 : decode cL_law 643 = .ok (.aload_n 1, 1) := by decide +kernel
theorem dL_law_644 : decode cL_law 644 = .ok (.aload_n 0, 1) := by decide +kernel
theorem dL_law_645 : decode cL_law 645 = .ok (.iload_n 3, 1) := by decide +kernel
theorem dL_law_646 : decode cL_law 646 = .ok (.iconst 1, 1) := by decide +kernel
theorem dL_law_647 : decode cL_law 647 = .ok (.iadd, 1) := by decide +kernel
theorem dL_law_648 : decode cL_law 648 = .ok (.iaload, 1) := by decide +kernel
theorem dL_law_649 : decode cL_law 649 = .ok (.aload_n 0, 1) := by decide +kernel
theorem dL_law_650 : decode cL_law 650 = .ok (.iload_n 3, 1) := by decide +kernel
theorem dL_law_651 : decode cL_law 651 = .ok (.iconst 2, 1) := by decide +kernel
theorem dL_law_652 : decode cL_law 652 = .ok (.iadd, 1) := by decide +kernel
theorem dL_law_653 : decode cL_law 653 = .ok (.iaload, 1) := by decide +kernel
theorem dL_law_654 : decode cL_law 654 = .ok (.aload_n 0, 1) := by decide +kernel
theorem dL_law_655 : decode cL_law 655 = .ok (.iload_n 3, 1) := by decide +kernel
theorem dL_law_656 : decode cL_law 656 = .ok (.iconst 3, 1) := by decide +kernel
theorem dL_law_657 : decode cL_law 657 = .ok (.iadd, 1) := by decide +kernel
theorem dL_law_658 : decode cL_law 658 = .ok (.iaload, 1) := by decide +kernel
theorem dL_law_659 : decode cL_law 659 = .ok (.invokevirtual 69, 3) := by decide +kernel
theorem dL_law_662 : decode cL_law 662 = .ok (.aload_n 2, 1) := by decide +kernel
theorem dL_law_663 : decode cL_law 663 = .ok (.aload_n 0, 1) := by decide +kernel
theorem dL_law_664 : decode cL_law 664 = .ok (.iload_n 3, 1) := by decide +kernel
theorem dL_law_665 : decode cL_law 665 = .ok (.iconst 1, 1) := by decide +kernel
theorem dL_law_666 : decode cL_law 666 = .ok (.iadd, 1) := by decide +kernel
theorem dL_law_667 : decode cL_law 667 = .ok (.iaload, 1) := by decide +kernel
theorem dL_law_668 : decode cL_law 668 = .ok (.aload_n 0, 1) := by decide +kernel
theorem dL_law_669 : decode cL_law 669 = .ok (.iload_n 3, 1) := by decide +kernel
theorem dL_law_670 : decode cL_law 670 = .ok (.iconst 2, 1) := by decide +kernel
theorem dL_law_671 : decode cL_law 671 = .ok (.iadd, 1) := by decide +kernel
theorem dL_law_672 : decode cL_law 672 = .ok (.iaload, 1) := by decide +kernel
theorem dL_law_673 : decode cL_law 673 = .ok (.aload_n 0, 1) := by decide +kernel
theorem dL_law_674 : decode cL_law 674 = .ok (.iload_n 3, 1) := by decide +kernel
theorem dL_law_675 : decode cL_law 675 = .ok (.iconst 3, 1) := by decide +kernel
theorem dL_law_676 : decode cL_law 676 = .ok (.iadd, 1) := by decide +kernel
theorem dL_law_677 : decode cL_law 677 = .ok (.iaload, 1) := by decide +kernel
theorem dL_law_678 : decode cL_law 678 = .ok (.invokevirtual 72, 3) := by decide +kernel
theorem dL_law_681 : decode cL_law 681 = .ok (.if_icmp .eq 220, 3) := by decide +kernel
theorem dL_law_684 : decode cL_law 684 = .ok (.iconst 0, 1) := by decide +kernel
theorem dL_law_685 : decode cL_law 685 = .ok (.ireturn, 1) := by decide +kernel
theorem dL_law_686 : decode cL_law 686 = .ok (.aload_n 1, 1) := by decide +kernel
theorem dL_law_687 : decode cL_law 687 = .ok (.aload_n 0, 1) := by decide +kernel
theorem dL_law_688 : decode cL_law 688 = .ok (.iload_n 3, 1) := by decide +kernel
theorem dL_law_689 : decode cL_law 689 = .ok (.iconst 1, 1) := by decide +kernel
theorem dL_law_690 : decode cL_law 690 = .ok (.iadd, 1) := by decide +kernel
theorem dL_law_691 : decode cL_law 691 = .ok (.iaload, 1) := by decide +kernel
theorem dL_law_692 : decode cL_law 692 = .ok (.aload_n 0, 1) := by decide +kernel
theorem dL_law_693 : decode cL_law 693 = .ok (.iload_n 3, 1) := by decide +kernel
theorem dL_law_694 : decode cL_law 694 = .ok (.iconst 2, 1) := by decide +kernel
theorem dL_law_695 : decode cL_law 695 = .ok (.iadd, 1) := by decide +kernel
theorem dL_law_696 : decode cL_law 696 = .ok (.iaload, 1) := by decide +kernel
theorem dL_law_697 : decode cL_law 697 = .ok (.aload_n 0, 1) := by decide +kernel
theorem dL_law_698 : decode cL_law 698 = .ok (.iload_n 3, 1) := by decide +kernel
theorem dL_law_699 : decode cL_law 699 = .ok (.iconst 3, 1) := by decide +kernel
theorem dL_law_700 : decode cL_law 700 = .ok (.iadd, 1) := by decide +kernel
theorem dL_law_701 : decode cL_law 701 = .ok (.iaload, 1) := by decide +kernel
theorem dL_law_702 : decode cL_law 702 = .ok (.aload_n 0, 1) := by decide +kernel
theorem dL_law_703 : decode cL_law 703 = .ok (.iload_n 3, 1) := by decide +kernel
theorem dL_law_704 : decode cL_law 704 = .ok (.iconst 4, 1) := by decide +kernel
theorem dL_law_705 : decode cL_law 705 = .ok (.iadd, 1) := by decide +kernel
theorem dL_law_706 : decode cL_law 706 = .ok (.iaload, 1) := by decide +kernel
theorem dL_law_707 : decode cL_law 707 = .ok (.invokevirtual 73, 3) := by decide +kernel
theorem dL_law_710 : decode cL_law 710 = .ok (.aload_n 2, 1) := by decide +kernel
theorem dL_law_711 : decode cL_law 711 = .ok (.aload_n 0, 1) := by decide +kernel
theorem dL_law_712 : decode cL_law 712 = .ok (.iload_n 3, 1) := by decide +kernel
theorem dL_law_713 : decode cL_law 713 = .ok (.iconst 1, 1) := by decide +kernel
theorem dL_law_714 : decode cL_law 714 = .ok (.iadd, 1) := by decide +kernel
theorem dL_law_715 : decode cL_law 715 = .ok (.iaload, 1) := by decide +kernel
theorem dL_law_716 : decode cL_law 716 = .ok (.aload_n 0, 1) := by decide +kernel
theorem dL_law_717 : decode cL_law 717 = .ok (.iload_n 3, 1) := by decide +kernel
theorem dL_law_718 : decode cL_law 718 = .ok (.iconst 2, 1) := by decide +kernel
theorem dL_law_719 : decode cL_law 719 = .ok (.iadd, 1) := by decide +kernel
theorem dL_law_720 : decode cL_law 720 = .ok (.iaload, 1) := by decide +kernel
theorem dL_law_721 : decode cL_law 721 = .ok (.aload_n 0, 1) := by decide +kernel
theorem dL_law_722 : decode cL_law 722 = .ok (.iload_n 3, 1) := by decide +kernel
theorem dL_law_723 : decode cL_law 723 = .ok (.iconst 3, 1) := by decide +kernel
theorem dL_law_724 : decode cL_law 724 = .ok (.iadd, 1) := by decide +kernel
theorem dL_law_725 : decode cL_law 725 = .ok (.iaload, 1) := by decide +kernel
theorem dL_law_726 : decode cL_law 726 = .ok (.aload_n 0, 1) := by decide +kernel
theorem dL_law_727 : decode cL_law 727 = .ok (.iload_n 3, 1) := by decide +kernel
theorem dL_law_728 : decode cL_law 728 = .ok (.iconst 4, 1) := by decide +kernel
theorem dL_law_729 : decode cL_law 729 = .ok (.iadd, 1) := by decide +kernel
theorem dL_law_730 : decode cL_law 730 = .ok (.iaload, 1) := by decide +kernel
theorem dL_law_731 : decode cL_law 731 = .ok (.invokevirtual 76, 3) := by decide +kernel
theorem dL_law_734 : decode cL_law 734 = .ok (.if_icmp .eq 167, 3) := by decide +kernel
theorem dL_law_737 : decode cL_law 737 = .ok (.iconst 0, 1) := by decide +kernel
theorem dL_law_738 : decode cL_law 738 = .ok (.ireturn, 1) := by decide +kernel
theorem dL_law_739 : decode cL_law 739 = .ok (.aload_n 1, 1) := by decide +kernel
theorem dL_law_740 : decode cL_law 740 = .ok (.aload_n 0, 1) := by decide +kernel
theorem dL_law_741 : decode cL_law 741 = .ok (.iload_n 3, 1) := by decide +kernel
theorem dL_law_742 : decode cL_law 742 = .ok (.iconst 1, 1) := by decide +kernel
theorem dL_law_743 : decode cL_law 743 = .ok (.iadd, 1) := by decide +kernel
theorem dL_law_744 : decode cL_law 744 = .ok (.iaload, 1) := by decide +kernel
theorem dL_law_745 : decode cL_law 745 = .ok (.aload_n 0, 1) := by decide +kernel
theorem dL_law_746 : decode cL_law 746 = .ok (.iload_n 3, 1) := by decide +kernel
theorem dL_law_747 : decode cL_law 747 = .ok (.iconst 2, 1) := by decide +kernel
theorem dL_law_748 : decode cL_law 748 = .ok (.iadd, 1) := by decide +kernel
theorem dL_law_749 : decode cL_law 749 = .ok (.iaload, 1) := by decide +kernel
theorem dL_law_750 : decode cL_law 750 = .ok (.aload_n 0, 1) := by decide +kernel
theorem dL_law_751 : decode cL_law 751 = .ok (.iload_n 3, 1) := by decide +kernel
theorem dL_law_752 : decode cL_law 752 = .ok (.iconst 3, 1) := by decide +kernel
theorem dL_law_753 : decode cL_law 753 = .ok (.iadd, 1) := by decide +kernel
theorem dL_law_754 : decode cL_law 754 = .ok (.iaload, 1) := by decide +kernel
theorem dL_law_755 : decode cL_law 755 = .ok (.aload_n 0, 1) := by decide +kernel
theorem dL_law_756 : decode cL_law 756 = .ok (.iload_n 3, 1) := by decide +kernel
theorem dL_law_757 : decode cL_law 757 = .ok (.iconst 4, 1) := by decide +kernel
theorem dL_law_758 : decode cL_law 758 = .ok (.iadd, 1) := by decide +kernel
theorem dL_law_759 : decode cL_law 759 = .ok (.iaload, 1) := by decide +kernel
theorem dL_law_760 : decode cL_law 760 = .ok (.aload_n 0, 1) := by decide +kernel
theorem dL_law_761 : decode cL_law 761 = .ok (.iload_n 3, 1) := by decide +kernel
theorem dL_law_762 : decode cL_law 762 = .ok (.iconst 5, 1) := by decide +kernel
theorem dL_law_763 : decode cL_law 763 = .ok (.iadd, 1) := by decide +kernel
theorem dL_law_764 : decode cL_law 764 = .ok (.iaload, 1) := by decide +kernel
theorem dL_law_765 : decode cL_law 765 = .ok (.invokevirtual 77, 3) := by decide +kernel
theorem dL_law_768 : decode cL_law 768 = .ok (.aload_n 2, 1) := by decide +kernel
theorem dL_law_769 : decode cL_law 769 = .ok (.aload_n 0, 1) := by decide +kernel
theorem dL_law_770 : decode cL_law 770 = .ok (.iload_n 3, 1) := by decide +kernel
theorem dL_law_771 : decode cL_law 771 = .ok (.iconst 1, 1) := by decide +kernel
theorem dL_law_772 : decode cL_law 772 = .ok (.iadd, 1) := by decide +kernel
theorem dL_law_773 : decode cL_law 773 = .ok (.iaload, 1) := by decide +kernel
theorem dL_law_774 : decode cL_law 774 = .ok (.aload_n 0, 1) := by decide +kernel
theorem dL_law_775 : decode cL_law 775 = .ok (.iload_n 3, 1) := by decide +kernel
theorem dL_law_776 : decode cL_law 776 = .ok (.iconst 2, 1) := by decide +kernel
theorem dL_law_777 : decode cL_law 777 = .ok (.iadd, 1) := by decide +kernel
theorem dL_law_778 : decode cL_law 778 = .ok (.iaload, 1) := by decide +kernel
theorem dL_law_779 : decode cL_law 779 = .ok (.aload_n 0, 1) := by decide +kernel
theorem dL_law_780 : decode cL_law 780 = .ok (.iload_n 3, 1) := by decide +kernel
theorem dL_law_781 : decode cL_law 781 = .ok (.iconst 3, 1) := by decide +kernel
theorem dL_law_782 : decode cL_law 782 = .ok (.iadd, 1) := by decide +kernel
theorem dL_law_783 : decode cL_law 783 = .ok (.iaload, 1) := by decide +kernel
theorem dL_law_784 : decode cL_law 784 = .ok (.aload_n 0, 1) := by decide +kernel
theorem dL_law_785 : decode cL_law 785 = .ok (.iload_n 3, 1) := by decide +kernel
theorem dL_law_786 : decode cL_law 786 = .ok (.iconst 4, 1) := by decide +kernel
theorem dL_law_787 : decode cL_law 787 = .ok (.iadd, 1) := by decide +kernel
theorem dL_law_788 : decode cL_law 788 = .ok (.iaload, 1) := by decide +kernel
theorem dL_law_789 : decode cL_law 789 = .ok (.aload_n 0, 1) := by decide +kernel
theorem dL_law_790 : decode cL_law 790 = .ok (.iload_n 3, 1) := by decide +kernel
theorem dL_law_791 : decode cL_law 791 = .ok (.iconst 5, 1) := by decide +kernel
theorem dL_law_792 : decode cL_law 792 = .ok (.iadd, 1) := by decide +kernel
theorem dL_law_793 : decode cL_law 793 = .ok (.iaload, 1) := by decide +kernel
theorem dL_law_794 : decode cL_law 794 = .ok (.invokevirtual 81, 3) := by decide +kernel
theorem dL_law_797 : decode cL_law 797 = .ok (.if_icmp .eq 104, 3) := by decide +kernel
theorem dL_law_800 : decode cL_law 800 = .ok (.iconst 0, 1) := by decide +kernel
theorem dL_law_801 : decode cL_law 801 = .ok (.ireturn, 1) := by decide +kernel
theorem dL_law_802 : decode cL_law 802 = .ok (.aload_n 1, 1) := by decide +kernel
theorem dL_law_803 : decode cL_law 803 = .ok (.aload_n 0, 1) := by decide +kernel
theorem dL_law_804 : decode cL_law 804 = .ok (.iload_n 3, 1) := by decide +kernel
theorem dL_law_805 : decode cL_law 805 = .ok (.iconst 1, 1) := by decide +kernel
theorem dL_law_806 : decode cL_law 806 = .ok (.iadd, 1) := by decide +kernel
theorem dL_law_807 : decode cL_law 807 = .ok (.iaload, 1) := by decide +kernel
theorem dL_law_808 : decode cL_law 808 = .ok (.aload_n 0, 1) := by decide +kernel
theorem dL_law_809 : decode cL_law 809 = .ok (.iload_n 3, 1) := by decide +kernel
theorem dL_law_810 : decode cL_law 810 = .ok (.iconst 2, 1) := by decide +kernel
theorem dL_law_811 : decode cL_law 811 = .ok (.iadd, 1) := by decide +kernel
theorem dL_law_812 : decode cL_law 812 = .ok (.iaload, 1) := by decide +kernel
theorem dL_law_813 : decode cL_law 813 = .ok (.invokevirtual 82, 3) := by decide +kernel
theorem dL_law_816 : decode cL_law 816 = .ok (.aload_n 2, 1) := by decide +kernel
theorem dL_law_817 : decode cL_law 817 = .ok (.aload_n 0, 1) := by decide +kernel
theorem dL_law_818 : decode cL_law 818 = .ok (.iload_n 3, 1) := by decide +kernel
theorem dL_law_819 : decode cL_law 819 = .ok (.iconst 1, 1) := by decide +kernel
theorem dL_law_820 : decode cL_law 820 = .ok (.iadd, 1) := by decide +kernel
theorem dL_law_821 : decode cL_law 821 = .ok (.iaload, 1) := by decide +kernel
theorem dL_law_822 : decode cL_law 822 = .ok (.aload_n 0, 1) := by decide +kernel
theorem dL_law_823 : decode cL_law 823 = .ok (.iload_n 3, 1) := by decide +kernel
theorem dL_law_824 : decode cL_law 824 = .ok (.iconst 2, 1) := by decide +kernel
theorem dL_law_825 : decode cL_law 825 = .ok (.iadd, 1) := by decide +kernel
theorem dL_law_826 : decode cL_law 826 = .ok (.iaload, 1) := by decide +kernel
theorem dL_law_827 : decode cL_law 827 = .ok (.invokevirtual 85, 3) := by decide +kernel
theorem dL_law_830 : decode cL_law 830 = .ok (.if_icmp .eq 71, 3) := by decide +kernel
theorem dL_law_833 : decode cL_law 833 = .ok (.iconst 0, 1) := by decide +kernel
theorem dL_law_834 : decode cL_law 834 = .ok (.ireturn, 1) := by decide +kernel
theorem dL_law_835 : decode cL_law 835 = .ok (.aload_n 1, 1) := by decide +kernel
theorem dL_law_836 : decode cL_law 836 = .ok (.aload_n 0, 1) := by decide +kernel
theorem dL_law_837 : decode cL_law 837 = .ok (.iload_n 3, 1) := by decide +kernel
theorem dL_law_838 : decode cL_law 838 = .ok (.iconst 1, 1) := by decide +kernel
theorem dL_law_839 : decode cL_law 839 = .ok (.iadd, 1) := by decide +kernel
theorem dL_law_840 : decode cL_law 840 = .ok (.iaload, 1) := by decide +kernel
theorem dL_law_841 : decode cL_law 841 = .ok (.aload_n 0, 1) := by decide +kernel
theorem dL_law_842 : decode cL_law 842 = .ok (.iload_n 3, 1) := by decide +kernel
theorem dL_law_843 : decode cL_law 843 = .ok (.iconst 2, 1) := by decide +kernel
theorem dL_law_844 : decode cL_law 844 = .ok (.iadd, 1) := by decide +kernel
theorem dL_law_845 : decode cL_law 845 = .ok (.iaload, 1) := by decide +kernel
theorem dL_law_846 : decode cL_law 846 = .ok (.invokevirtual 86, 3) := by decide +kernel
theorem dL_law_849 : decode cL_law 849 = .ok (.aload_n 2, 1) := by decide +kernel
theorem dL_law_850 : decode cL_law 850 = .ok (.aload_n 0, 1) := by decide +kernel
theorem dL_law_851 : decode cL_law 851 = .ok (.iload_n 3, 1) := by decide +kernel
theorem dL_law_852 : decode cL_law 852 = .ok (.iconst 1, 1) := by decide +kernel
theorem dL_law_853 : decode cL_law 853 = .ok (.iadd, 1) := by decide +kernel
theorem dL_law_854 : decode cL_law 854 = .ok (.iaload, 1) := by decide +kernel
theorem dL_law_855 : decode cL_law 855 = .ok (.aload_n 0, 1) := by decide +kernel
theorem dL_law_856 : decode cL_law 856 = .ok (.iload_n 3, 1) := by decide +kernel
theorem dL_law_857 : decode cL_law 857 = .ok (.iconst 2, 1) := by decide +kernel
theorem dL_law_858 : decode cL_law 858 = .ok (.iadd, 1) := by decide +kernel
theorem dL_law_859 : decode cL_law 859 = .ok (.iaload, 1) := by decide +kernel
theorem dL_law_860 : decode cL_law 860 = .ok (.invokevirtual 89, 3) := by decide +kernel
theorem dL_law_863 : decode cL_law 863 = .ok (.if_icmp .eq 38, 3) := by decide +kernel
theorem dL_law_866 : decode cL_law 866 = .ok (.iconst 0, 1) := by decide +kernel
theorem dL_law_867 : decode cL_law 867 = .ok (.ireturn, 1) := by decide +kernel
theorem dL_law_868 : decode cL_law 868 = .ok (.aload_n 1, 1) := by decide +kernel
theorem dL_law_869 : decode cL_law 869 = .ok (.aload_n 0, 1) := by decide +kernel
theorem dL_law_870 : decode cL_law 870 = .ok (.iload_n 3, 1) := by decide +kernel
theorem dL_law_871 : decode cL_law 871 = .ok (.iconst 1, 1) := by decide +kernel
theorem dL_law_872 : decode cL_law 872 = .ok (.iadd, 1) := by decide +kernel
theorem dL_law_873 : decode cL_law 873 = .ok (.iaload, 1) := by decide +kernel
theorem dL_law_874 : decode cL_law 874 = .ok (.aload_n 0, 1) := by decide +kernel
theorem dL_law_875 : decode cL_law 875 = .ok (.iload_n 3, 1) := by decide +kernel
theorem dL_law_876 : decode cL_law 876 = .ok (.iconst 2, 1) := by decide +kernel
theorem dL_law_877 : decode cL_law 877 = .ok (.iadd, 1) := by decide +kernel
theorem dL_law_878 : decode cL_law 878 = .ok (.iaload, 1) := by decide +kernel
theorem dL_law_879 : decode cL_law 879 = .ok (.invokevirtual 90, 3) := by decide +kernel
theorem dL_law_882 : decode cL_law 882 = .ok (.aload_n 2, 1) := by decide +kernel
theorem dL_law_883 : decode cL_law 883 = .ok (.aload_n 0, 1) := by decide +kernel
theorem dL_law_884 : decode cL_law 884 = .ok (.iload_n 3, 1) := by decide +kernel
theorem dL_law_885 : decode cL_law 885 = .ok (.iconst 1, 1) := by decide +kernel
theorem dL_law_886 : decode cL_law 886 = .ok (.iadd, 1) := by decide +kernel
theorem dL_law_887 : decode cL_law 887 = .ok (.iaload, 1) := by decide +kernel
theorem dL_law_888 : decode cL_law 888 = .ok (.aload_n 0, 1) := by decide +kernel
theorem dL_law_889 : decode cL_law 889 = .ok (.iload_n 3, 1) := by decide +kernel
theorem dL_law_890 : decode cL_law 890 = .ok (.iconst 2, 1) := by decide +kernel
theorem dL_law_891 : decode cL_law 891 = .ok (.iadd, 1) := by decide +kernel
theorem dL_law_892 : decode cL_law 892 = .ok (.iaload, 1) := by decide +kernel
theorem dL_law_893 : decode cL_law 893 = .ok (.invokevirtual 93, 3) := by decide +kernel
theorem dL_law_896 : decode cL_law 896 = .ok (.if_icmp .eq 5, 3) := by decide +kernel
theorem dL_law_899 : decode cL_law 899 = .ok (.iconst 0, 1) := by decide +kernel
theorem dL_law_900 : decode cL_law 900 = .ok (.ireturn, 1) := by decide +kernel
theorem dL_law_901 : decode cL_law 901 = .ok (.iinc 3 6, 3) := by decide +kernel
theorem dL_law_904 : decode cL_law 904 = .ok (.goto (-886), 3) := by decide +kernel
theorem dL_law_907 : decode cL_law 907 = .ok (.iconst 1, 1) := by decide +kernel
theorem dL_law_908 : decode cL_law 908 = .ok (.ireturn, 1) := by decide +kernel
end
section
def lw_G : List Cond := lw_tbl.filter goodWord
set_option maxRecDepth 20000 in
theorem lw_Gt {w : Cond} (h : w ∈ lw_G) : w ∈ lw_tbl := (List.mem_filter.mp h).1
set_option maxRecDepth 20000 in
theorem lw_gd {w : Cond} (h : w ∈ lw_G) : (w.onTables && w.keeps) = true ∨ ∃ ty, w = .arrayClass ty := good_of_word (List.mem_filter.mp h).2
set_option maxRecDepth 20000 in
theorem lw_gi {ws : List Cond} (h : ∀ w ∈ ws, w ∈ lw_G) : GoodIn lw_G ws := fun w hw => ⟨h w hw, lw_gd (h w hw)⟩
def isNest : Cond → Bool
  | .methodLinkNest .. => true
  | .fieldLinkNest .. => true
  | _ => false
def lw_N : List Cond := lw_tbl.filter isNest
def NW (U : State) : Prop := ∀ w ∈ lw_N, va_Nw w U
theorem NW.warm {s U : State} (hW : s.WarmedH U.vm) (h : NW s) : NW U := fun w hw => by
  have h1 := (List.mem_filter.mp hw).2
  have h2 := h w hw
  cases w <;> first | exact va_Nw.warmM hW h2 | exact va_Nw.warmF hW h2 | (simp [isNest] at h1; done)
theorem NW.same {u U : State} (hv : u.vm = U.vm) (h : NW u) : NW U := fun w hw => by
  have h1 := (List.mem_filter.mp hw).2
  have h2 := h w hw
  cases w <;> first | exact va_Nw.same rfl hv h2 | (simp [isNest] at h1; done)
theorem mwN (i : Nat) {w : Cond} (h : lw_tbl[i]? = some w) (g : isNest w = true) : w ∈ lw_N := List.mem_filter.mpr ⟨List.mem_of_getElem? h, g⟩
set_option maxRecDepth 20000 in
theorem mw (i : Nat) {w : Cond} (h : lw_tbl[i]? = some w) (g : goodWord w = true) : w ∈ lw_G := List.mem_filter.mpr ⟨List.mem_of_getElem? h, g⟩
set_option maxRecDepth 20000 in
theorem fx_X0 : ∀ w ∈ u_ws RX0 TX0 1, w ∈ lw_G := by decide +kernel
set_option maxRecDepth 20000 in
theorem fx_X1 : ∀ w ∈ u_ws RX1 TX1 8, w ∈ lw_G := by decide +kernel
set_option maxRecDepth 20000 in
theorem fx_X2 : ∀ w ∈ u_ws RX2 TX2 10, w ∈ lw_G := by decide +kernel
def Ln (own : String) (index : Nat) (y : MethodName) : Prop := Cond.methodLink own index y ∈ lw_G
def LnN (own : String) (index : Nat) (y : MethodName) : Prop := Cond.methodLinkNest own index y RX1 ∈ lw_N
def MfS (y : MethodName) (cc : ByteArray) (maxL : Nat) (ret : Option FieldType) (n : Nat) : Prop := Cond.code y cc maxL ret ∈ lw_G ∧ Cond.initialized y.cls ∈ lw_G ∧ Cond.static y ∈ lw_G ∧ (y.cls ≠ "java/lang/invoke/MethodHandle" ∧ y.cls ≠ "java/lang/invoke/VarHandle" ∧ (parseMethodDescriptor y.desc).map (fun d => d.parameters.length) = some n)
def MfV (y : MethodName) (cc : ByteArray) (maxL : Nat) (ret : Option FieldType) (n : Nat) : Prop := Cond.code y cc maxL ret ∈ lw_G ∧ Cond.initialized y.cls ∈ lw_G ∧ Cond.instanceMethod y ∈ lw_G ∧ Cond.selects y.cls y y ∈ lw_G ∧ (y.cls ≠ "java/lang/invoke/MethodHandle" ∧ y.cls ≠ "java/lang/invoke/VarHandle" ∧ (parseMethodDescriptor y.desc).map (fun d => d.parameters.length) = some n)
set_option maxRecDepth 20000 in
theorem it_L : Cond.initialized RL ∈ lw_G := mw 30 (by rfl) rfl
set_option maxRecDepth 20000 in
theorem it_X1 : Cond.initialized RX1 ∈ lw_G := mw 31 (by rfl) rfl
set_option maxRecDepth 20000 in
theorem it_X0 : Cond.initialized RX0 ∈ lw_G := mw 32 (by rfl) rfl
set_option maxRecDepth 20000 in
theorem it_X2 : Cond.initialized RX2 ∈ lw_G := mw 33 (by rfl) rfl
set_option maxRecDepth 20000 in
theorem it_J13 : Cond.initialized RJ13 ∈ lw_G := mw 34 (by rfl) rfl
set_option maxRecDepth 20000 in
theorem it_J9 : Cond.initialized "java/lang/Math" ∈ lw_G := mw 35 (by rfl) rfl
set_option maxRecDepth 20000 in
theorem it_J6 : Cond.initialized RJ6 ∈ lw_G := mw 36 (by rfl) rfl
set_option maxRecDepth 20000 in
theorem cl_L_7 : Cond.classLink RL 7 RX1 ∈ lw_G := mw 37 (by rfl) rfl
set_option maxRecDepth 20000 in
theorem in_X1 : Cond.instantiable RX1 8 ∈ lw_G := mw 38 (by rfl) rfl
set_option maxRecDepth 20000 in
theorem ln_L_9 : Ln RL 9 yX1_init := mw 39 (by rfl) rfl
set_option maxRecDepth 20000 in
theorem mfi_X1_init : Cond.code yX1_init cX1_init 2 none ∈ lw_G ∧ Cond.initialized yX1_init.cls ∈ lw_G ∧ Cond.instanceMethod yX1_init ∈ lw_G := ⟨mw 41 (by rfl) rfl, mw 31 (by rfl) rfl, mw 40 (by rfl) rfl⟩
set_option maxRecDepth 20000 in
theorem ln_X1_5 : Cond.methodLink RX1 5 objectInit ∈ lw_G := mw 42 (by rfl) rfl
set_option maxRecDepth 20000 in
theorem oi_code : Cond.code objectInit ⟨#[0xb1]⟩ 1 none ∈ lw_G := mw 44 (by rfl) rfl
set_option maxRecDepth 20000 in
theorem oi_inst : Cond.instanceMethod objectInit ∈ lw_G := mw 43 (by rfl) rfl
set_option maxRecDepth 20000 in
theorem cl_X1_29 : Cond.classLink RX1 29 RX0 ∈ lw_G := mw 45 (by rfl) rfl
set_option maxRecDepth 20000 in
theorem ao_X0 : Cond.arrayOver (.object RX0) ∈ lw_tbl := List.mem_of_getElem? (i := 46) (by rfl)
set_option maxRecDepth 20000 in
theorem in_X0 : Cond.instantiable RX0 1 ∈ lw_G := mw 47 (by rfl) rfl
set_option maxRecDepth 20000 in
theorem ln_X1_35 : LnN RX1 35 yX0_init := mwN 48 (by rfl) rfl
set_option maxRecDepth 20000 in
theorem mfi_X0_init : Cond.code yX0_init cX0_init 1 none ∈ lw_G ∧ Cond.initialized yX0_init.cls ∈ lw_G ∧ Cond.instanceMethod yX0_init ∈ lw_G := ⟨mw 50 (by rfl) rfl, mw 32 (by rfl) rfl, mw 49 (by rfl) rfl⟩
set_option maxRecDepth 20000 in
theorem ln_X0_3 : Cond.methodLink RX0 3 objectInit ∈ lw_G := mw 51 (by rfl) rfl
set_option maxRecDepth 20000 in
theorem ac_int : Cond.arrayClass .int ∈ lw_G := mw 57 (by rfl) rfl
set_option maxRecDepth 20000 in
theorem ac_long : Cond.arrayClass .long ∈ lw_G := mw 58 (by rfl) rfl
set_option maxRecDepth 20000 in
theorem ln_L_13 : Ln RL 13 yX1_row := mw 84 (by rfl) rfl
set_option maxRecDepth 20000 in
theorem mf_X1_row : MfV yX1_row cX1_row 4 (some .int) 3 := ⟨mw 87 (by rfl) rfl, mw 31 (by rfl) rfl, mw 85 (by rfl) rfl, mw 86 (by rfl) rfl, by decide +kernel⟩
set_option maxRecDepth 20000 in
theorem ln_X1_43 : Ln RX1 43 yX1_isRegister := mw 88 (by rfl) rfl
set_option maxRecDepth 20000 in
theorem mf_X1_isRegister : MfS yX1_isRegister cX1_isRegister 1 (some .boolean) 1 := ⟨mw 90 (by rfl) rfl, mw 31 (by rfl) rfl, mw 89 (by rfl) rfl, by decide +kernel⟩
set_option maxRecDepth 20000 in
theorem ln_X1_47 : Ln RX1 47 yX1_hold := mw 91 (by rfl) rfl
set_option maxRecDepth 20000 in
theorem mf_X1_hold : MfV yX1_hold cX1_hold 4 (some .int) 3 := ⟨mw 94 (by rfl) rfl, mw 31 (by rfl) rfl, mw 93 (by rfl) rfl, mw 0 (by rfl) rfl, by decide +kernel⟩
set_option maxRecDepth 20000 in
theorem ln_X1_182 : Ln RX1 182 yX1_worth := mw 95 (by rfl) rfl
set_option maxRecDepth 20000 in
theorem mf_X1_worth : MfS yX1_worth cX1_worth 10 (some .long) 2 := ⟨mw 97 (by rfl) rfl, mw 31 (by rfl) rfl, mw 96 (by rfl) rfl, by decide +kernel⟩
set_option maxRecDepth 20000 in
theorem ln_X1_59 : Ln RX1 59 yX1_isPlus := mw 98 (by rfl) rfl
set_option maxRecDepth 20000 in
theorem mf_X1_isPlus : MfS yX1_isPlus cX1_isPlus 2 (some .boolean) 2 := ⟨mw 100 (by rfl) rfl, mw 31 (by rfl) rfl, mw 99 (by rfl) rfl, by decide +kernel⟩
set_option maxRecDepth 20000 in
theorem ln_X1_108 : Ln RX1 108 yX1_has := mw 101 (by rfl) rfl
set_option maxRecDepth 20000 in
theorem mf_X1_has : MfS yX1_has cX1_has 2 (some .boolean) 2 := ⟨mw 103 (by rfl) rfl, mw 31 (by rfl) rfl, mw 102 (by rfl) rfl, by decide +kernel⟩
set_option maxRecDepth 20000 in
theorem kc_X1_186 : Cond.constantLong RX1 186 (8388608) ∈ lw_G := mw 104 (by rfl) rfl
set_option maxRecDepth 20000 in
theorem kc_X1_188 : Cond.constantLong RX1 188 (2) ∈ lw_G := mw 105 (by rfl) rfl
set_option maxRecDepth 20000 in
theorem ln_L_18 : Ln RL 18 yX1_number := mw 106 (by rfl) rfl
set_option maxRecDepth 20000 in
theorem mf_X1_number : MfV yX1_number cX1_number 4 (some .int) 3 := ⟨mw 109 (by rfl) rfl, mw 31 (by rfl) rfl, mw 107 (by rfl) rfl, mw 108 (by rfl) rfl, by decide +kernel⟩
set_option maxRecDepth 20000 in
theorem ln_X1_51 : Ln RX1 51 yX1_isFraction := mw 110 (by rfl) rfl
set_option maxRecDepth 20000 in
theorem mf_X1_isFraction : MfS yX1_isFraction cX1_isFraction 2 (some .boolean) 2 := ⟨mw 112 (by rfl) rfl, mw 31 (by rfl) rfl, mw 111 (by rfl) rfl, by decide +kernel⟩
set_option maxRecDepth 20000 in
theorem kc_X1_62 : Cond.constant RX1 62 (-1000000000) ∈ lw_G := mw 113 (by rfl) rfl
set_option maxRecDepth 20000 in
theorem kc_X1_163 : Cond.constant RX1 163 (1000000000) ∈ lw_G := mw 114 (by rfl) rfl
set_option maxRecDepth 20000 in
theorem ln_X1_55 : Ln RX1 55 yX1_holdValue := mw 115 (by rfl) rfl
set_option maxRecDepth 20000 in
theorem mf_X1_holdValue : MfV yX1_holdValue cX1_holdValue 4 (some .int) 2 := ⟨mw 118 (by rfl) rfl, mw 31 (by rfl) rfl, mw 117 (by rfl) rfl, mw 1 (by rfl) rfl, by decide +kernel⟩
set_option maxRecDepth 20000 in
theorem ln_X1_94 : Ln RX1 94 yX1_holdSimplest := mw 119 (by rfl) rfl
set_option maxRecDepth 20000 in
theorem mf_X1_holdSimplest : MfV yX1_holdSimplest cX1_holdSimplest 10 (some .int) 3 := ⟨mw 122 (by rfl) rfl, mw 31 (by rfl) rfl, mw 121 (by rfl) rfl, mw 2 (by rfl) rfl, by decide +kernel⟩
set_option maxRecDepth 20000 in
theorem ln_L_22 : Ln RL 22 yX1_at := mw 123 (by rfl) rfl
set_option maxRecDepth 20000 in
theorem mf_X1_at : MfV yX1_at cX1_at 3 (some .int) 2 := ⟨mw 126 (by rfl) rfl, mw 31 (by rfl) rfl, mw 124 (by rfl) rfl, mw 125 (by rfl) rfl, by decide +kernel⟩
set_option maxRecDepth 20000 in
theorem ln_L_27 : Ln RL 27 yX1_value := mw 127 (by rfl) rfl
set_option maxRecDepth 20000 in
theorem mf_X1_value : MfV yX1_value cX1_value 3 (some .int) 2 := ⟨mw 130 (by rfl) rfl, mw 31 (by rfl) rfl, mw 128 (by rfl) rfl, mw 129 (by rfl) rfl, by decide +kernel⟩
set_option maxRecDepth 20000 in
theorem ln_X1_63 : Ln RX1 63 yX1_leastAbove := mw 131 (by rfl) rfl
set_option maxRecDepth 20000 in
theorem mf_X1_leastAbove : MfS yX1_leastAbove cX1_leastAbove 3 (some .int) 2 := ⟨mw 133 (by rfl) rfl, mw 31 (by rfl) rfl, mw 132 (by rfl) rfl, by decide +kernel⟩
set_option maxRecDepth 20000 in
theorem ln_X1_67 : Ln RX1 67 yX1_leastBelow := mw 134 (by rfl) rfl
set_option maxRecDepth 20000 in
theorem mf_X1_leastBelow : MfS yX1_leastBelow cX1_leastBelow 3 (some .int) 2 := ⟨mw 136 (by rfl) rfl, mw 31 (by rfl) rfl, mw 135 (by rfl) rfl, by decide +kernel⟩
set_option maxRecDepth 20000 in
theorem ln_X1_172 : Ln RX1 172 yX1_halvings := mw 137 (by rfl) rfl
set_option maxRecDepth 20000 in
theorem mf_X1_halvings : MfS yX1_halvings cX1_halvings 2 (some .int) 1 := ⟨mw 139 (by rfl) rfl, mw 31 (by rfl) rfl, mw 138 (by rfl) rfl, by decide +kernel⟩
set_option maxRecDepth 20000 in
theorem ln_X1_170 : Ln RX1 170 yJ13_bitCount_95d88 := mw 140 (by rfl) rfl
set_option maxRecDepth 20000 in
theorem mf_J13_bitCount_95d88 : MfS yJ13_bitCount_95d88 cJ13_bitCount_95d88 2 (some .int) 1 := ⟨mw 142 (by rfl) rfl, mw 34 (by rfl) rfl, mw 141 (by rfl) rfl, by decide +kernel⟩
set_option maxRecDepth 20000 in
theorem kc_J13_314 : Cond.constantLong RJ13 314 (6148914691236517205) ∈ lw_G := mw 143 (by rfl) rfl
set_option maxRecDepth 20000 in
theorem kc_J13_316 : Cond.constantLong RJ13 316 (3689348814741910323) ∈ lw_G := mw 144 (by rfl) rfl
set_option maxRecDepth 20000 in
theorem kc_J13_318 : Cond.constantLong RJ13 318 (1085102592571150095) ∈ lw_G := mw 145 (by rfl) rfl
set_option maxRecDepth 20000 in
theorem ln_X1_175 : Cond.methodLink RX1 175 Lib.Math.max.name ∈ lw_G := mw 146 (by rfl) rfl
set_option maxRecDepth 20000 in
theorem ma_mmax_c : Cond.code Lib.Math.max.name Lib.Math.max.code 2 (some .int) ∈ lw_G := mw 148 (by decide +kernel) rfl
set_option maxRecDepth 20000 in
theorem ma_mmax_s : Cond.static Lib.Math.max.name ∈ lw_G := mw 147 (by rfl) rfl
set_option maxRecDepth 20000 in
theorem ln_L_31 : Ln RL 31 yX1_against := mw 149 (by rfl) rfl
set_option maxRecDepth 20000 in
theorem mf_X1_against : MfV yX1_against cX1_against 3 (some .int) 2 := ⟨mw 152 (by rfl) rfl, mw 31 (by rfl) rfl, mw 150 (by rfl) rfl, mw 151 (by rfl) rfl, by decide +kernel⟩
set_option maxRecDepth 20000 in
theorem ln_X1_70 : Ln RX1 70 yX1_signOf := mw 153 (by rfl) rfl
set_option maxRecDepth 20000 in
theorem mf_X1_signOf : MfS yX1_signOf cX1_signOf 2 (some .int) 1 := ⟨mw 155 (by rfl) rfl, mw 31 (by rfl) rfl, mw 154 (by rfl) rfl, by decide +kernel⟩
set_option maxRecDepth 20000 in
theorem ln_L_35 : Ln RL 35 yX1_work := mw 156 (by rfl) rfl
set_option maxRecDepth 20000 in
theorem mf_X1_work : MfV yX1_work cX1_work 5 (some .int) 4 := ⟨mw 159 (by rfl) rfl, mw 31 (by rfl) rfl, mw 157 (by rfl) rfl, mw 158 (by rfl) rfl, by decide +kernel⟩
set_option maxRecDepth 20000 in
theorem ln_X1_74 : Ln RX1 74 yX1_holdProduct := mw 160 (by rfl) rfl
set_option maxRecDepth 20000 in
theorem mf_X1_holdProduct : MfV yX1_holdProduct cX1_holdProduct 4 (some .int) 2 := ⟨mw 163 (by rfl) rfl, mw 31 (by rfl) rfl, mw 162 (by rfl) rfl, mw 3 (by rfl) rfl, by decide +kernel⟩
set_option maxRecDepth 20000 in
theorem ln_L_40 : Ln RL 40 yX1_side := mw 164 (by rfl) rfl
set_option maxRecDepth 20000 in
theorem mf_X1_side : MfV yX1_side cX1_side 6 (some .int) 3 := ⟨mw 167 (by rfl) rfl, mw 31 (by rfl) rfl, mw 165 (by rfl) rfl, mw 166 (by rfl) rfl, by decide +kernel⟩
set_option maxRecDepth 20000 in
theorem ln_X1_77 : Ln RX1 77 yX1_lowBits := mw 168 (by rfl) rfl
set_option maxRecDepth 20000 in
theorem mf_X1_lowBits : MfS yX1_lowBits cX1_lowBits 1 (some .int) 1 := ⟨mw 170 (by rfl) rfl, mw 31 (by rfl) rfl, mw 169 (by rfl) rfl, by decide +kernel⟩
set_option maxRecDepth 20000 in
theorem ln_L_44 : Ln RL 44 yX1_cut := mw 171 (by rfl) rfl
set_option maxRecDepth 20000 in
theorem mf_X1_cut : MfV yX1_cut cX1_cut 4 (some .int) 3 := ⟨mw 174 (by rfl) rfl, mw 31 (by rfl) rfl, mw 172 (by rfl) rfl, mw 173 (by rfl) rfl, by decide +kernel⟩
set_option maxRecDepth 20000 in
theorem ln_X1_81 : Ln RX1 81 yX1_areRegisters := mw 175 (by rfl) rfl
set_option maxRecDepth 20000 in
theorem mf_X1_areRegisters : MfS yX1_areRegisters cX1_areRegisters 1 (some .boolean) 1 := ⟨mw 177 (by rfl) rfl, mw 31 (by rfl) rfl, mw 176 (by rfl) rfl, by decide +kernel⟩
set_option maxRecDepth 20000 in
theorem ln_X1_84 : Ln RX1 84 yX1_findPair := mw 178 (by rfl) rfl
set_option maxRecDepth 20000 in
theorem mf_X1_findPair : MfV yX1_findPair cX1_findPair 5 (some .boolean) 2 := ⟨mw 181 (by rfl) rfl, mw 31 (by rfl) rfl, mw 180 (by rfl) rfl, mw 4 (by rfl) rfl, by decide +kernel⟩
set_option maxRecDepth 20000 in
theorem ln_X1_87 : Ln RX1 87 yX1_leastAboveAll := mw 182 (by rfl) rfl
set_option maxRecDepth 20000 in
theorem mf_X1_leastAboveAll : MfV yX1_leastAboveAll cX1_leastAboveAll 5 (some .long) 1 := ⟨mw 185 (by rfl) rfl, mw 31 (by rfl) rfl, mw 184 (by rfl) rfl, mw 5 (by rfl) rfl, by decide +kernel⟩
set_option maxRecDepth 20000 in
theorem kc_X1_161 : Cond.constantLong RX1 161 (-9223372036854775808) ∈ lw_G := mw 186 (by rfl) rfl
set_option maxRecDepth 20000 in
theorem ln_X1_190 : Cond.methodLink RX1 190 Lib.MathLoose.max_long.x ∈ lw_G := mw 187 (by rfl) rfl
set_option maxRecDepth 20000 in
theorem ma_mmaxL_c : Cond.code Lib.MathLoose.max_long.x Lib.MathLoose.max_long.code 4 (some .long) ∈ lw_G := mw 189 (by decide +kernel) rfl
set_option maxRecDepth 20000 in
theorem ma_mmaxL_s : Cond.static Lib.MathLoose.max_long.x ∈ lw_G := mw 188 (by rfl) rfl
set_option maxRecDepth 20000 in
theorem ln_X1_91 : Ln RX1 91 yX1_greatestBelowAll := mw 190 (by rfl) rfl
set_option maxRecDepth 20000 in
theorem mf_X1_greatestBelowAll : MfV yX1_greatestBelowAll cX1_greatestBelowAll 5 (some .long) 1 := ⟨mw 193 (by rfl) rfl, mw 31 (by rfl) rfl, mw 192 (by rfl) rfl, mw 6 (by rfl) rfl, by decide +kernel⟩
set_option maxRecDepth 20000 in
theorem kc_X1_193 : Cond.constantLong RX1 193 (9223372036854775807) ∈ lw_G := mw 194 (by rfl) rfl
set_option maxRecDepth 20000 in
theorem ln_X1_195 : Cond.methodLink RX1 195 Lib.MathLoose.min_long.x ∈ lw_G := mw 195 (by rfl) rfl
set_option maxRecDepth 20000 in
theorem ma_mminL_c : Cond.code Lib.MathLoose.min_long.x Lib.MathLoose.min_long.code 4 (some .long) ∈ lw_G := mw 197 (by decide +kernel) rfl
set_option maxRecDepth 20000 in
theorem ma_mminL_s : Cond.static Lib.MathLoose.min_long.x ∈ lw_G := mw 196 (by rfl) rfl
set_option maxRecDepth 20000 in
theorem ln_L_48 : Ln RL 48 yX1_pair := mw 198 (by rfl) rfl
set_option maxRecDepth 20000 in
theorem mf_X1_pair : MfV yX1_pair cX1_pair 2 (some .int) 1 := ⟨mw 201 (by rfl) rfl, mw 31 (by rfl) rfl, mw 199 (by rfl) rfl, mw 200 (by rfl) rfl, by decide +kernel⟩
set_option maxRecDepth 20000 in
theorem ln_L_53 : Ln RL 53 yX1_born := mw 202 (by rfl) rfl
set_option maxRecDepth 20000 in
theorem mf_X1_born : MfV yX1_born cX1_born 4 (some .int) 3 := ⟨mw 205 (by rfl) rfl, mw 31 (by rfl) rfl, mw 203 (by rfl) rfl, mw 204 (by rfl) rfl, by decide +kernel⟩
set_option maxRecDepth 20000 in
theorem ln_X1_98 : Ln RX1 98 yX1_isListedDay := mw 206 (by rfl) rfl
set_option maxRecDepth 20000 in
theorem mf_X1_isListedDay : MfS yX1_isListedDay cX1_isListedDay 1 (some .boolean) 1 := ⟨mw 208 (by rfl) rfl, mw 31 (by rfl) rfl, mw 207 (by rfl) rfl, by decide +kernel⟩
set_option maxRecDepth 20000 in
theorem ln_X1_101 : Ln RX1 101 yX1_turnedRound := mw 209 (by rfl) rfl
set_option maxRecDepth 20000 in
theorem mf_X1_turnedRound : MfS yX1_turnedRound cX1_turnedRound 4 (some .int) 2 := ⟨mw 211 (by rfl) rfl, mw 31 (by rfl) rfl, mw 210 (by rfl) rfl, by decide +kernel⟩
set_option maxRecDepth 20000 in
theorem ln_L_57 : Ln RL 57 yX1_between := mw 212 (by rfl) rfl
set_option maxRecDepth 20000 in
theorem mf_X1_between : MfV yX1_between cX1_between 5 (some .int) 3 := ⟨mw 215 (by rfl) rfl, mw 31 (by rfl) rfl, mw 213 (by rfl) rfl, mw 214 (by rfl) rfl, by decide +kernel⟩
set_option maxRecDepth 20000 in
theorem ln_X1_105 : Ln RX1 105 yX1_countLess := mw 216 (by rfl) rfl
set_option maxRecDepth 20000 in
theorem mf_X1_countLess : MfV yX1_countLess cX1_countLess 5 (some .int) 2 := ⟨mw 219 (by rfl) rfl, mw 31 (by rfl) rfl, mw 218 (by rfl) rfl, mw 7 (by rfl) rfl, by decide +kernel⟩
set_option maxRecDepth 20000 in
theorem ln_L_61 : Ln RL 61 yX1_wins := mw 220 (by rfl) rfl
set_option maxRecDepth 20000 in
theorem mf_X1_wins : MfV yX1_wins cX1_wins 7 (some .int) 2 := ⟨mw 223 (by rfl) rfl, mw 31 (by rfl) rfl, mw 221 (by rfl) rfl, mw 222 (by rfl) rfl, by decide +kernel⟩
set_option maxRecDepth 20000 in
theorem ln_X1_111 : Ln RX1 111 yJ6_bitCount_0f7a4 := mw 224 (by rfl) rfl
set_option maxRecDepth 20000 in
theorem mf_J6_bitCount_0f7a4 : MfS yJ6_bitCount_0f7a4 cJ6_bitCount_0f7a4 1 (some .int) 1 := ⟨mw 226 (by rfl) rfl, mw 36 (by rfl) rfl, mw 225 (by rfl) rfl, by decide +kernel⟩
set_option maxRecDepth 20000 in
theorem kc_J6_265 : Cond.constant RJ6 265 (1431655765) ∈ lw_G := mw 227 (by rfl) rfl
set_option maxRecDepth 20000 in
theorem kc_J6_266 : Cond.constant RJ6 266 (858993459) ∈ lw_G := mw 228 (by rfl) rfl
set_option maxRecDepth 20000 in
theorem kc_J6_267 : Cond.constant RJ6 267 (252645135) ∈ lw_G := mw 229 (by rfl) rfl
set_option maxRecDepth 20000 in
theorem ln_L_65 : Ln RL 65 yX1_term := mw 230 (by rfl) rfl
set_option maxRecDepth 20000 in
theorem mf_X1_term : MfV yX1_term cX1_term 5 (some .int) 4 := ⟨mw 233 (by rfl) rfl, mw 31 (by rfl) rfl, mw 231 (by rfl) rfl, mw 232 (by rfl) rfl, by decide +kernel⟩
set_option maxRecDepth 20000 in
theorem ln_X1_116 : Ln RX1 116 yX1_isSum := mw 234 (by rfl) rfl
set_option maxRecDepth 20000 in
theorem mf_X1_isSum : MfS yX1_isSum cX1_isSum 1 (some .boolean) 1 := ⟨mw 236 (by rfl) rfl, mw 31 (by rfl) rfl, mw 235 (by rfl) rfl, by decide +kernel⟩
set_option maxRecDepth 20000 in
theorem ln_X1_119 : Ln RX1 119 yX1_isExponent := mw 237 (by rfl) rfl
set_option maxRecDepth 20000 in
theorem mf_X1_isExponent : MfS yX1_isExponent cX1_isExponent 1 (some .boolean) 1 := ⟨mw 239 (by rfl) rfl, mw 31 (by rfl) rfl, mw 238 (by rfl) rfl, by decide +kernel⟩
set_option maxRecDepth 20000 in
theorem ln_X1_125 : Ln RX1 125 yX1_factorOf := mw 240 (by rfl) rfl
set_option maxRecDepth 20000 in
theorem mf_X1_factorOf : MfS yX1_factorOf cX1_factorOf 6 (some .long) 2 := ⟨mw 242 (by rfl) rfl, mw 31 (by rfl) rfl, mw 241 (by rfl) rfl, by decide +kernel⟩
set_option maxRecDepth 20000 in
theorem kc_X1_178 : Cond.constantLong RX1 178 (-1000000000) ∈ lw_G := mw 243 (by rfl) rfl
set_option maxRecDepth 20000 in
theorem kc_X1_180 : Cond.constantLong RX1 180 (1000000000) ∈ lw_G := mw 244 (by rfl) rfl
set_option maxRecDepth 20000 in
theorem ln_X1_129 : LnN RX1 129 yX0_countTerms := mwN 245 (by rfl) rfl
set_option maxRecDepth 20000 in
theorem mf_X0_countTerms : MfV yX0_countTerms cX0_countTerms 3 (some .int) 0 := ⟨mw 248 (by rfl) rfl, mw 32 (by rfl) rfl, mw 247 (by rfl) rfl, mw 8 (by rfl) rfl, by decide +kernel⟩
set_option maxRecDepth 20000 in
theorem ln_L_69 : Ln RL 69 yX1_told := mw 249 (by rfl) rfl
set_option maxRecDepth 20000 in
theorem mf_X1_told : MfV yX1_told cX1_told 7 (some .int) 3 := ⟨mw 252 (by rfl) rfl, mw 31 (by rfl) rfl, mw 250 (by rfl) rfl, mw 251 (by rfl) rfl, by decide +kernel⟩
set_option maxRecDepth 20000 in
theorem kc_X1_133 : Cond.constant RX1 133 (-1000000001) ∈ lw_G := mw 253 (by rfl) rfl
set_option maxRecDepth 20000 in
theorem ln_X1_134 : LnN RX1 134 yX0_slotOfTerm := mwN 254 (by rfl) rfl
set_option maxRecDepth 20000 in
theorem mf_X0_slotOfTerm : MfV yX0_slotOfTerm cX0_slotOfTerm 4 (some .int) 1 := ⟨mw 257 (by rfl) rfl, mw 32 (by rfl) rfl, mw 256 (by rfl) rfl, mw 9 (by rfl) rfl, by decide +kernel⟩
set_option maxRecDepth 20000 in
theorem kc_X1_137 : Cond.constant RX1 137 (-1000000004) ∈ lw_G := mw 258 (by rfl) rfl
set_option maxRecDepth 20000 in
theorem ln_L_73 : Ln RL 73 yX1_sum := mw 259 (by rfl) rfl
set_option maxRecDepth 20000 in
theorem mf_X1_sum : MfV yX1_sum cX1_sum 6 (some .int) 4 := ⟨mw 262 (by rfl) rfl, mw 31 (by rfl) rfl, mw 260 (by rfl) rfl, mw 261 (by rfl) rfl, by decide +kernel⟩
set_option maxRecDepth 20000 in
theorem ln_X1_138 : LnN RX1 138 yX0_becomeProduct := mwN 263 (by rfl) rfl
set_option maxRecDepth 20000 in
theorem mf_X0_becomeProduct : MfV yX0_becomeProduct cX0_becomeProduct 6 (some .boolean) 2 := ⟨mw 266 (by rfl) rfl, mw 32 (by rfl) rfl, mw 265 (by rfl) rfl, mw 10 (by rfl) rfl, by decide +kernel⟩
set_option maxRecDepth 20000 in
theorem ln_X0_37 : Ln RX0 37 yX0_clear := mw 267 (by rfl) rfl
set_option maxRecDepth 20000 in
theorem mf_X0_clear : MfV yX0_clear cX0_clear 2 none 0 := ⟨mw 270 (by rfl) rfl, mw 32 (by rfl) rfl, mw 269 (by rfl) rfl, mw 11 (by rfl) rfl, by decide +kernel⟩
set_option maxRecDepth 20000 in
theorem ln_X0_40 : Ln RX0 40 yX0_putProducts := mw 271 (by rfl) rfl
set_option maxRecDepth 20000 in
theorem mf_X0_putProducts : MfV yX0_putProducts cX0_putProducts 8 (some .boolean) 3 := ⟨mw 274 (by rfl) rfl, mw 32 (by rfl) rfl, mw 273 (by rfl) rfl, mw 12 (by rfl) rfl, by decide +kernel⟩
set_option maxRecDepth 20000 in
theorem ln_X0_25 : LnN RX0 25 yX1_factorProduct := mwN 275 (by rfl) rfl
set_option maxRecDepth 20000 in
theorem mf_X1_factorProduct : MfS yX1_factorProduct cX1_factorProduct 6 (some .long) 2 := ⟨mw 277 (by rfl) rfl, mw 31 (by rfl) rfl, mw 276 (by rfl) rfl, by decide +kernel⟩
set_option maxRecDepth 20000 in
theorem ln_X0_29 : Ln RX0 29 yX0_put := mw 278 (by rfl) rfl
set_option maxRecDepth 20000 in
theorem mf_X0_put : MfV yX0_put cX0_put 7 (some .boolean) 2 := ⟨mw 281 (by rfl) rfl, mw 32 (by rfl) rfl, mw 280 (by rfl) rfl, mw 13 (by rfl) rfl, by decide +kernel⟩
set_option maxRecDepth 20000 in
theorem ln_X0_15 : LnN RX0 15 yX1_isExponent := mwN 282 (by rfl) rfl
set_option maxRecDepth 20000 in
theorem kc_X0_19 : Cond.constantLong RX0 19 (-9223372036854775808) ∈ lw_G := mw 283 (by rfl) rfl
set_option maxRecDepth 20000 in
theorem ln_X0_21 : LnN RX0 21 yX1_factorOf := mwN 284 (by rfl) rfl
set_option maxRecDepth 20000 in
theorem ln_X1_142 : LnN RX1 142 yX0_becomeTogether := mwN 285 (by rfl) rfl
set_option maxRecDepth 20000 in
theorem mf_X0_becomeTogether : MfV yX0_becomeTogether cX0_becomeTogether 7 (some .boolean) 3 := ⟨mw 288 (by rfl) rfl, mw 32 (by rfl) rfl, mw 287 (by rfl) rfl, mw 14 (by rfl) rfl, by decide +kernel⟩
set_option maxRecDepth 20000 in
theorem ln_X0_33 : Ln RX0 33 yX0_become := mw 289 (by rfl) rfl
set_option maxRecDepth 20000 in
theorem mf_X0_become : MfV yX0_become cX0_become 3 none 1 := ⟨mw 292 (by rfl) rfl, mw 32 (by rfl) rfl, mw 291 (by rfl) rfl, mw 15 (by rfl) rfl, by decide +kernel⟩
set_option maxRecDepth 20000 in
theorem ln_X1_146 : LnN RX1 146 yX0_become := mwN 293 (by rfl) rfl
set_option maxRecDepth 20000 in
theorem ln_L_77 : Ln RL 77 yX1_divide := mw 294 (by rfl) rfl
set_option maxRecDepth 20000 in
theorem mf_X1_divide : MfV yX1_divide cX1_divide 10 (some .int) 5 := ⟨mw 297 (by rfl) rfl, mw 31 (by rfl) rfl, mw 295 (by rfl) rfl, mw 296 (by rfl) rfl, by decide +kernel⟩
set_option maxRecDepth 20000 in
theorem ln_X1_150 : Ln RX1 150 yX1_isPowerOfTwo := mw 298 (by rfl) rfl
set_option maxRecDepth 20000 in
theorem mf_X1_isPowerOfTwo : MfS yX1_isPowerOfTwo cX1_isPowerOfTwo 2 (some .boolean) 1 := ⟨mw 300 (by rfl) rfl, mw 31 (by rfl) rfl, mw 299 (by rfl) rfl, by decide +kernel⟩
set_option maxRecDepth 20000 in
theorem ln_X1_164 : Cond.methodLink RX1 164 Lib.MathLoose.abs_long.x ∈ lw_G := mw 301 (by rfl) rfl
set_option maxRecDepth 20000 in
theorem ma_mabsL_c : Cond.code Lib.MathLoose.abs_long.x Lib.MathLoose.abs_long.code 2 (some .long) ∈ lw_G := mw 303 (by decide +kernel) rfl
set_option maxRecDepth 20000 in
theorem ma_mabsL_s : Cond.static Lib.MathLoose.abs_long.x ∈ lw_G := mw 302 (by rfl) rfl
set_option maxRecDepth 20000 in
theorem ln_X1_154 : LnN RX1 154 yX0_clear := mwN 304 (by rfl) rfl
set_option maxRecDepth 20000 in
theorem ln_X1_157 : Ln RX1 157 yX1_divideOnce := mw 305 (by rfl) rfl
set_option maxRecDepth 20000 in
theorem mf_X1_divideOnce : MfV yX1_divideOnce cX1_divideOnce 7 (some .boolean) 3 := ⟨mw 308 (by rfl) rfl, mw 31 (by rfl) rfl, mw 307 (by rfl) rfl, mw 16 (by rfl) rfl, by decide +kernel⟩
set_option maxRecDepth 20000 in
theorem ln_X1_198 : Ln RX1 198 yX1_factorQuotient := mw 309 (by rfl) rfl
set_option maxRecDepth 20000 in
theorem mf_X1_factorQuotient : MfS yX1_factorQuotient cX1_factorQuotient 4 (some .long) 2 := ⟨mw 311 (by rfl) rfl, mw 31 (by rfl) rfl, mw 310 (by rfl) rfl, by decide +kernel⟩
set_option maxRecDepth 20000 in
theorem ln_X1_201 : LnN RX1 201 yX0_put := mwN 312 (by rfl) rfl
set_option maxRecDepth 20000 in
theorem ln_X1_205 : LnN RX1 205 yX0_putProducts := mwN 313 (by rfl) rfl
set_option maxRecDepth 20000 in
theorem ln_L_82 : Ln RL 82 yX1_order := mw 314 (by rfl) rfl
set_option maxRecDepth 20000 in
theorem mf_X1_order : MfV yX1_order cX1_order 4 (some .int) 2 := ⟨mw 317 (by rfl) rfl, mw 31 (by rfl) rfl, mw 315 (by rfl) rfl, mw 316 (by rfl) rfl, by decide +kernel⟩
set_option maxRecDepth 20000 in
theorem ln_L_86 : Ln RL 86 yX1_take := mw 318 (by rfl) rfl
set_option maxRecDepth 20000 in
theorem mf_X1_take : MfV yX1_take cX1_take 5 (some .int) 2 := ⟨mw 321 (by rfl) rfl, mw 31 (by rfl) rfl, mw 319 (by rfl) rfl, mw 320 (by rfl) rfl, by decide +kernel⟩
set_option maxRecDepth 20000 in
theorem ln_L_90 : Ln RL 90 yX1_near := mw 322 (by rfl) rfl
set_option maxRecDepth 20000 in
theorem mf_X1_near : MfV yX1_near cX1_near 3 (some .int) 2 := ⟨mw 325 (by rfl) rfl, mw 31 (by rfl) rfl, mw 323 (by rfl) rfl, mw 324 (by rfl) rfl, by decide +kernel⟩
set_option maxRecDepth 20000 in
theorem cl_L_10 : Cond.classLink RL 10 RX2 ∈ lw_G := mw 326 (by rfl) rfl
set_option maxRecDepth 20000 in
theorem in_X2 : Cond.instantiable RX2 10 ∈ lw_G := mw 327 (by rfl) rfl
set_option maxRecDepth 20000 in
theorem ln_L_12 : Ln RL 12 yX2_init := mw 328 (by rfl) rfl
set_option maxRecDepth 20000 in
theorem mfi_X2_init : Cond.code yX2_init cX2_init 1 none ∈ lw_G ∧ Cond.initialized yX2_init.cls ∈ lw_G ∧ Cond.instanceMethod yX2_init ∈ lw_G := ⟨mw 330 (by rfl) rfl, mw 33 (by rfl) rfl, mw 329 (by rfl) rfl⟩
set_option maxRecDepth 20000 in
theorem ln_X2_1 : Cond.methodLink RX2 1 objectInit ∈ lw_G := mw 331 (by rfl) rfl
set_option maxRecDepth 20000 in
theorem ln_L_17 : Ln RL 17 yX2_row := mw 363 (by rfl) rfl
set_option maxRecDepth 20000 in
theorem mf_X2_row : MfV yX2_row cX2_row 4 (some .int) 3 := ⟨mw 366 (by rfl) rfl, mw 33 (by rfl) rfl, mw 364 (by rfl) rfl, mw 365 (by rfl) rfl, by decide +kernel⟩
set_option maxRecDepth 20000 in
theorem ln_X2_52 : Ln RX2 52 yX2_isRegister := mw 367 (by rfl) rfl
set_option maxRecDepth 20000 in
theorem mf_X2_isRegister : MfS yX2_isRegister cX2_isRegister 1 (some .boolean) 1 := ⟨mw 369 (by rfl) rfl, mw 33 (by rfl) rfl, mw 368 (by rfl) rfl, by decide +kernel⟩
set_option maxRecDepth 20000 in
theorem kc_X2_30 : Cond.constantLong RX2 30 (11) ∈ lw_G := mw 370 (by rfl) rfl
set_option maxRecDepth 20000 in
theorem ln_X2_32 : Ln RX2 32 yX2_in := mw 371 (by rfl) rfl
set_option maxRecDepth 20000 in
theorem mf_X2_in : MfS yX2_in cX2_in 6 (some .boolean) 3 := ⟨mw 373 (by rfl) rfl, mw 33 (by rfl) rfl, mw 372 (by rfl) rfl, by decide +kernel⟩
set_option maxRecDepth 20000 in
theorem kc_X2_56 : Cond.constantLong RX2 56 (24) ∈ lw_G := mw 374 (by rfl) rfl
set_option maxRecDepth 20000 in
theorem ln_L_21 : Ln RL 21 yX2_number := mw 375 (by rfl) rfl
set_option maxRecDepth 20000 in
theorem mf_X2_number : MfV yX2_number cX2_number 4 (some .int) 3 := ⟨mw 378 (by rfl) rfl, mw 33 (by rfl) rfl, mw 376 (by rfl) rfl, mw 377 (by rfl) rfl, by decide +kernel⟩
set_option maxRecDepth 20000 in
theorem kc_X2_58 : Cond.constantLong RX2 58 (-1000000000) ∈ lw_G := mw 379 (by rfl) rfl
set_option maxRecDepth 20000 in
theorem kc_X2_60 : Cond.constantLong RX2 60 (1000000000) ∈ lw_G := mw 380 (by rfl) rfl
set_option maxRecDepth 20000 in
theorem kc_X2_62 : Cond.constantLong RX2 62 (20) ∈ lw_G := mw 381 (by rfl) rfl
set_option maxRecDepth 20000 in
theorem ln_X2_64 : Ln RX2 64 yX2_has := mw 382 (by rfl) rfl
set_option maxRecDepth 20000 in
theorem mf_X2_has : MfV yX2_has cX2_has 11 (some .boolean) 2 := ⟨mw 385 (by rfl) rfl, mw 33 (by rfl) rfl, mw 384 (by rfl) rfl, mw 17 (by rfl) rfl, by decide +kernel⟩
set_option maxRecDepth 20000 in
theorem kc_X2_38 : Cond.constantLong RX2 38 (2) ∈ lw_G := mw 386 (by rfl) rfl
set_option maxRecDepth 20000 in
theorem kc_X2_50 : Cond.constantLong RX2 50 (25) ∈ lw_G := mw 387 (by rfl) rfl
set_option maxRecDepth 20000 in
theorem kc_X2_36 : Cond.constantLong RX2 36 (16777216) ∈ lw_G := mw 388 (by rfl) rfl
set_option maxRecDepth 20000 in
theorem ln_X2_40 : Ln RX2 40 yX2_worth := mw 389 (by rfl) rfl
set_option maxRecDepth 20000 in
theorem mf_X2_worth : MfS yX2_worth cX2_worth 9 (some .long) 2 := ⟨mw 391 (by rfl) rfl, mw 33 (by rfl) rfl, mw 390 (by rfl) rfl, by decide +kernel⟩
set_option maxRecDepth 20000 in
theorem ln_X2_68 : Ln RX2 68 yX2_keeps := mw 392 (by rfl) rfl
set_option maxRecDepth 20000 in
theorem mf_X2_keeps : MfV yX2_keeps cX2_keeps 3 (some .int) 2 := ⟨mw 395 (by rfl) rfl, mw 33 (by rfl) rfl, mw 394 (by rfl) rfl, mw 18 (by rfl) rfl, by decide +kernel⟩
set_option maxRecDepth 20000 in
theorem ln_L_26 : Ln RL 26 yX2_at := mw 396 (by rfl) rfl
set_option maxRecDepth 20000 in
theorem mf_X2_at : MfV yX2_at cX2_at 3 (some .int) 2 := ⟨mw 399 (by rfl) rfl, mw 33 (by rfl) rfl, mw 397 (by rfl) rfl, mw 398 (by rfl) rfl, by decide +kernel⟩
set_option maxRecDepth 20000 in
theorem ln_L_30 : Ln RL 30 yX2_value := mw 400 (by rfl) rfl
set_option maxRecDepth 20000 in
theorem mf_X2_value : MfV yX2_value cX2_value 6 (some .int) 2 := ⟨mw 403 (by rfl) rfl, mw 33 (by rfl) rfl, mw 401 (by rfl) rfl, mw 402 (by rfl) rfl, by decide +kernel⟩
set_option maxRecDepth 20000 in
theorem kc_X2_72 : Cond.constant RX2 72 (-1000000000) ∈ lw_G := mw 404 (by rfl) rfl
set_option maxRecDepth 20000 in
theorem ln_X2_73 : Ln RX2 73 yX2_worthOf := mw 405 (by rfl) rfl
set_option maxRecDepth 20000 in
theorem mf_X2_worthOf : MfV yX2_worthOf cX2_worthOf 2 (some .long) 1 := ⟨mw 408 (by rfl) rfl, mw 33 (by rfl) rfl, mw 407 (by rfl) rfl, mw 19 (by rfl) rfl, by decide +kernel⟩
set_option maxRecDepth 20000 in
theorem ln_L_34 : Ln RL 34 yX2_against := mw 409 (by rfl) rfl
set_option maxRecDepth 20000 in
theorem mf_X2_against : MfV yX2_against cX2_against 3 (some .int) 2 := ⟨mw 412 (by rfl) rfl, mw 33 (by rfl) rfl, mw 410 (by rfl) rfl, mw 411 (by rfl) rfl, by decide +kernel⟩
set_option maxRecDepth 20000 in
theorem ln_X2_77 : Ln RX2 77 yX2_compare := mw 413 (by rfl) rfl
set_option maxRecDepth 20000 in
theorem mf_X2_compare : MfS yX2_compare cX2_compare 4 (some .int) 2 := ⟨mw 415 (by rfl) rfl, mw 33 (by rfl) rfl, mw 414 (by rfl) rfl, by decide +kernel⟩
set_option maxRecDepth 20000 in
theorem ln_L_39 : Ln RL 39 yX2_work := mw 416 (by rfl) rfl
set_option maxRecDepth 20000 in
theorem mf_X2_work : MfV yX2_work cX2_work 9 (some .int) 4 := ⟨mw 419 (by rfl) rfl, mw 33 (by rfl) rfl, mw 417 (by rfl) rfl, mw 418 (by rfl) rfl, by decide +kernel⟩
set_option maxRecDepth 20000 in
theorem kc_X2_81 : Cond.constantLong RX2 81 (3) ∈ lw_G := mw 420 (by rfl) rfl
set_option maxRecDepth 20000 in
theorem ln_L_43 : Ln RL 43 yX2_side := mw 421 (by rfl) rfl
set_option maxRecDepth 20000 in
theorem mf_X2_side : MfV yX2_side cX2_side 5 (some .int) 3 := ⟨mw 424 (by rfl) rfl, mw 33 (by rfl) rfl, mw 422 (by rfl) rfl, mw 423 (by rfl) rfl, by decide +kernel⟩
set_option maxRecDepth 20000 in
theorem ln_L_47 : Ln RL 47 yX2_cut := mw 425 (by rfl) rfl
set_option maxRecDepth 20000 in
theorem mf_X2_cut : MfV yX2_cut cX2_cut 12 (some .int) 3 := ⟨mw 428 (by rfl) rfl, mw 33 (by rfl) rfl, mw 426 (by rfl) rfl, mw 427 (by rfl) rfl, by decide +kernel⟩
set_option maxRecDepth 20000 in
theorem kc_X2_83 : Cond.constantLong RX2 83 (4095) ∈ lw_G := mw 429 (by rfl) rfl
set_option maxRecDepth 20000 in
theorem ln_X2_85 : Ln RX2 85 yX2_finds := mw 430 (by rfl) rfl
set_option maxRecDepth 20000 in
theorem mf_X2_finds : MfV yX2_finds cX2_finds 9 (some .boolean) 4 := ⟨mw 433 (by rfl) rfl, mw 33 (by rfl) rfl, mw 432 (by rfl) rfl, mw 20 (by rfl) rfl, by decide +kernel⟩
set_option maxRecDepth 20000 in
theorem ln_L_52 : Ln RL 52 yX2_pair := mw 434 (by rfl) rfl
set_option maxRecDepth 20000 in
theorem mf_X2_pair : MfV yX2_pair cX2_pair 2 (some .int) 1 := ⟨mw 437 (by rfl) rfl, mw 33 (by rfl) rfl, mw 435 (by rfl) rfl, mw 436 (by rfl) rfl, by decide +kernel⟩
set_option maxRecDepth 20000 in
theorem ln_L_56 : Ln RL 56 yX2_born := mw 438 (by rfl) rfl
set_option maxRecDepth 20000 in
theorem mf_X2_born : MfV yX2_born cX2_born 5 (some .int) 3 := ⟨mw 441 (by rfl) rfl, mw 33 (by rfl) rfl, mw 439 (by rfl) rfl, mw 440 (by rfl) rfl, by decide +kernel⟩
set_option maxRecDepth 20000 in
theorem ln_L_60 : Ln RL 60 yX2_between := mw 442 (by rfl) rfl
set_option maxRecDepth 20000 in
theorem mf_X2_between : MfV yX2_between cX2_between 4 (some .int) 3 := ⟨mw 445 (by rfl) rfl, mw 33 (by rfl) rfl, mw 443 (by rfl) rfl, mw 444 (by rfl) rfl, by decide +kernel⟩
set_option maxRecDepth 20000 in
theorem ln_X2_93 : Ln RX2 93 yX2_lesser := mw 446 (by rfl) rfl
set_option maxRecDepth 20000 in
theorem mf_X2_lesser : MfV yX2_lesser cX2_lesser 5 (some .int) 2 := ⟨mw 449 (by rfl) rfl, mw 33 (by rfl) rfl, mw 448 (by rfl) rfl, mw 21 (by rfl) rfl, by decide +kernel⟩
set_option maxRecDepth 20000 in
theorem ln_X2_89 : Ln RX2 89 yX2_size := mw 450 (by rfl) rfl
set_option maxRecDepth 20000 in
theorem mf_X2_size : MfS yX2_size cX2_size 2 (some .int) 2 := ⟨mw 452 (by rfl) rfl, mw 33 (by rfl) rfl, mw 451 (by rfl) rfl, by decide +kernel⟩
set_option maxRecDepth 20000 in
theorem ln_L_64 : Ln RL 64 yX2_wins := mw 453 (by rfl) rfl
set_option maxRecDepth 20000 in
theorem mf_X2_wins : MfV yX2_wins cX2_wins 8 (some .int) 2 := ⟨mw 456 (by rfl) rfl, mw 33 (by rfl) rfl, mw 454 (by rfl) rfl, mw 455 (by rfl) rfl, by decide +kernel⟩
set_option maxRecDepth 20000 in
theorem ln_L_68 : Ln RL 68 yX2_term := mw 457 (by rfl) rfl
set_option maxRecDepth 20000 in
theorem mf_X2_term : MfV yX2_term cX2_term 6 (some .int) 4 := ⟨mw 460 (by rfl) rfl, mw 33 (by rfl) rfl, mw 458 (by rfl) rfl, mw 459 (by rfl) rfl, by decide +kernel⟩
set_option maxRecDepth 20000 in
theorem ln_X2_119 : Ln RX2 119 yX2_isSum := mw 461 (by rfl) rfl
set_option maxRecDepth 20000 in
theorem mf_X2_isSum : MfS yX2_isSum cX2_isSum 1 (some .boolean) 1 := ⟨mw 463 (by rfl) rfl, mw 33 (by rfl) rfl, mw 462 (by rfl) rfl, by decide +kernel⟩
set_option maxRecDepth 20000 in
theorem kc_X2_103 : Cond.constantLong RX2 103 (7) ∈ lw_G := mw 464 (by rfl) rfl
set_option maxRecDepth 20000 in
theorem kc_X2_108 : Cond.constantLong RX2 108 (-6) ∈ lw_G := mw 465 (by rfl) rfl
set_option maxRecDepth 20000 in
theorem kc_X2_110 : Cond.constantLong RX2 110 (6) ∈ lw_G := mw 466 (by rfl) rfl
set_option maxRecDepth 20000 in
theorem ln_X2_112 : Ln RX2 112 yX2_plain := mw 467 (by rfl) rfl
set_option maxRecDepth 20000 in
theorem mf_X2_plain : MfV yX2_plain cX2_plain 4 (some .boolean) 2 := ⟨mw 470 (by rfl) rfl, mw 33 (by rfl) rfl, mw 469 (by rfl) rfl, mw 22 (by rfl) rfl, by decide +kernel⟩
set_option maxRecDepth 20000 in
theorem ln_X2_105 : Ln RX2 105 yX2_place := mw 471 (by rfl) rfl
set_option maxRecDepth 20000 in
theorem mf_X2_place : MfS yX2_place cX2_place 2 (some .int) 2 := ⟨mw 473 (by rfl) rfl, mw 33 (by rfl) rfl, mw 472 (by rfl) rfl, by decide +kernel⟩
set_option maxRecDepth 20000 in
theorem ln_X2_122 : Ln RX2 122 yX2_terms := mw 474 (by rfl) rfl
set_option maxRecDepth 20000 in
theorem mf_X2_terms : MfV yX2_terms cX2_terms 4 (some .int) 1 := ⟨mw 477 (by rfl) rfl, mw 33 (by rfl) rfl, mw 476 (by rfl) rfl, mw 23 (by rfl) rfl, by decide +kernel⟩
set_option maxRecDepth 20000 in
theorem ln_L_72 : Ln RL 72 yX2_told := mw 478 (by rfl) rfl
set_option maxRecDepth 20000 in
theorem mf_X2_told : MfV yX2_told cX2_told 7 (some .int) 3 := ⟨mw 481 (by rfl) rfl, mw 33 (by rfl) rfl, mw 479 (by rfl) rfl, mw 480 (by rfl) rfl, by decide +kernel⟩
set_option maxRecDepth 20000 in
theorem kc_X2_126 : Cond.constant RX2 126 (-1000000001) ∈ lw_G := mw 482 (by rfl) rfl
set_option maxRecDepth 20000 in
theorem kc_X2_127 : Cond.constant RX2 127 (-1000000004) ∈ lw_G := mw 483 (by rfl) rfl
set_option maxRecDepth 20000 in
theorem ln_L_76 : Ln RL 76 yX2_sum := mw 484 (by rfl) rfl
set_option maxRecDepth 20000 in
theorem mf_X2_sum : MfV yX2_sum cX2_sum 6 (some .int) 4 := ⟨mw 487 (by rfl) rfl, mw 33 (by rfl) rfl, mw 485 (by rfl) rfl, mw 486 (by rfl) rfl, by decide +kernel⟩
set_option maxRecDepth 20000 in
theorem ln_X2_136 : Ln RX2 136 yX2_products := mw 488 (by rfl) rfl
set_option maxRecDepth 20000 in
theorem mf_X2_products : MfV yX2_products cX2_products 8 (some .boolean) 2 := ⟨mw 491 (by rfl) rfl, mw 33 (by rfl) rfl, mw 490 (by rfl) rfl, mw 24 (by rfl) rfl, by decide +kernel⟩
set_option maxRecDepth 20000 in
theorem ln_X2_128 : Ln RX2 128 yX2_copies := mw 492 (by rfl) rfl
set_option maxRecDepth 20000 in
theorem mf_X2_copies : MfV yX2_copies cX2_copies 4 none 2 := ⟨mw 495 (by rfl) rfl, mw 33 (by rfl) rfl, mw 494 (by rfl) rfl, mw 25 (by rfl) rfl, by decide +kernel⟩
set_option maxRecDepth 20000 in
theorem ln_X2_132 : Ln RX2 132 yX2_multiplies := mw 496 (by rfl) rfl
set_option maxRecDepth 20000 in
theorem mf_X2_multiplies : MfV yX2_multiplies cX2_multiplies 11 (some .boolean) 7 := ⟨mw 499 (by rfl) rfl, mw 33 (by rfl) rfl, mw 498 (by rfl) rfl, mw 26 (by rfl) rfl, by decide +kernel⟩
set_option maxRecDepth 20000 in
theorem ln_X2_115 : Ln RX2 115 yX2_puts := mw 500 (by rfl) rfl
set_option maxRecDepth 20000 in
theorem mf_X2_puts : MfV yX2_puts cX2_puts 9 (some .boolean) 4 := ⟨mw 503 (by rfl) rfl, mw 33 (by rfl) rfl, mw 502 (by rfl) rfl, mw 27 (by rfl) rfl, by decide +kernel⟩
set_option maxRecDepth 20000 in
theorem kc_X2_140 : Cond.constantLong RX2 140 (-1) ∈ lw_G := mw 504 (by rfl) rfl
set_option maxRecDepth 20000 in
theorem ln_X2_142 : Ln RX2 142 yX2_adds := mw 505 (by rfl) rfl
set_option maxRecDepth 20000 in
theorem mf_X2_adds : MfV yX2_adds cX2_adds 8 (some .boolean) 3 := ⟨mw 508 (by rfl) rfl, mw 33 (by rfl) rfl, mw 507 (by rfl) rfl, mw 28 (by rfl) rfl, by decide +kernel⟩
set_option maxRecDepth 20000 in
theorem ln_L_81 : Ln RL 81 yX2_divide := mw 509 (by rfl) rfl
set_option maxRecDepth 20000 in
theorem mf_X2_divide : MfV yX2_divide cX2_divide 23 (some .int) 5 := ⟨mw 512 (by rfl) rfl, mw 33 (by rfl) rfl, mw 510 (by rfl) rfl, mw 511 (by rfl) rfl, by decide +kernel⟩
set_option maxRecDepth 20000 in
theorem ln_X2_146 : Ln RX2 146 yX2_greatest := mw 513 (by rfl) rfl
set_option maxRecDepth 20000 in
theorem mf_X2_greatest : MfV yX2_greatest cX2_greatest 3 (some .int) 1 := ⟨mw 516 (by rfl) rfl, mw 33 (by rfl) rfl, mw 515 (by rfl) rfl, mw 29 (by rfl) rfl, by decide +kernel⟩
set_option maxRecDepth 20000 in
theorem ln_L_85 : Ln RL 85 yX2_order := mw 517 (by rfl) rfl
set_option maxRecDepth 20000 in
theorem mf_X2_order : MfV yX2_order cX2_order 4 (some .int) 2 := ⟨mw 520 (by rfl) rfl, mw 33 (by rfl) rfl, mw 518 (by rfl) rfl, mw 519 (by rfl) rfl, by decide +kernel⟩
set_option maxRecDepth 20000 in
theorem ln_L_89 : Ln RL 89 yX2_take := mw 521 (by rfl) rfl
set_option maxRecDepth 20000 in
theorem mf_X2_take : MfV yX2_take cX2_take 3 (some .int) 2 := ⟨mw 524 (by rfl) rfl, mw 33 (by rfl) rfl, mw 522 (by rfl) rfl, mw 523 (by rfl) rfl, by decide +kernel⟩
set_option maxRecDepth 20000 in
theorem ln_L_93 : Ln RL 93 yX2_near := mw 525 (by rfl) rfl
set_option maxRecDepth 20000 in
theorem mf_X2_near : MfV yX2_near cX2_near 3 (some .int) 2 := ⟨mw 528 (by rfl) rfl, mw 33 (by rfl) rfl, mw 526 (by rfl) rfl, mw 527 (by rfl) rfl, by decide +kernel⟩
end
section
abbrev KT : Type := va_G × ClassId × ClassId × ClassId
abbrev tysK (K : KT) : List (ClassId × FieldType) := [(K.2.1, .int), (K.2.2.1, .long), (K.2.2.2, .object RX0)]
abbrev aI (K : KT) (a n : Nat) (f : Nat → Int32) : Nat × va_E := (a, .inl (K.2.1, n, .inl f))
abbrev aJ (K : KT) (a n : Nat) (f : Nat → Int64) : Nat × va_E := (a, .inl (K.2.2.1, n, .inr (.inl f)))
abbrev aO (K : KT) (a n : Nat) (f : Nat → Option Nat) : Nat × va_E := (a, .inl (K.2.2.2, n, .inr (.inr (.inr (.inr f)))))
abbrev oB (a ci : Nat) (fs : List Value) : Nat × va_E := (a, .inr (ci, fs))
abbrev LV : Type := List (Nat × Value)
def lk : LV → Nat → Option Value
  | [], _ => none
  | q :: t, i => bif Nat.beq q.1 i then some q.2 else lk t i
theorem lk_mem : ∀ {lv : LV} {i : Nat} {v : Value}, lk lv i = some v → (i, v) ∈ lv
  | [], _, _, h => by cases h
  | q :: t, i, v, h => by
    cases e : Nat.beq q.1 i with
    | true =>
      have h2 : some q.2 = some v := by have h3 := h; simp only [lk, e, cond_true] at h3; exact h3
      have e2 : q.1 = i := Nat.eq_of_beq_eq_true e
      have e3 : q.2 = v := Option.some.inj h2
      rw [← e2, ← e3]
      exact List.mem_cons_self
    | false =>
      have h3 := h
      simp only [lk, e, cond_false] at h3
      exact List.mem_cons_of_mem _ (lk_mem h3)
theorem lk_at {ls : Array Slot} {nL : Nat} {lv : LV} (hl : lv_has ls nL lv) {i : Nat} {v : Value} (h : lk lv i = some v) : ls[i]? = some (.val v) := hl.2.2 (i, v) (lk_mem h)
def lins (i : Nat) (v : Value) : LV → LV
  | [] => [(i, v)]
  | q :: t => bif Nat.blt i q.1 then (i, v) :: q :: t else q :: lins i v t
theorem lins_mem {i : Nat} {v : Value} : ∀ {l : LV} {q : Nat × Value}, q ∈ lins i v l → q ∈ (i, v) :: l
  | [], q, h => h
  | x :: t, q, h => by
    cases e : Nat.blt i x.1 with
    | true => simp only [lins, e, cond_true] at h; exact h
    | false =>
      simp only [lins, e, cond_false] at h
      rcases List.mem_cons.mp h with h | h
      · rw [h]; exact List.mem_cons_of_mem _ List.mem_cons_self
      · rcases List.mem_cons.mp (lins_mem h) with h | h
        · rw [h]; exact List.mem_cons_self
        · exact List.mem_cons_of_mem _ (List.mem_cons_of_mem _ h)
theorem lv_wk {ls : Array Slot} {nL : Nat} {a b : LV} (h : lv_has ls nL a) (hs : ∀ q ∈ b, q ∈ a) : lv_has ls nL b := ⟨h.1, h.2.1, fun q hq => h.2.2 q (hs q hq)⟩
def st1 (i : Nat) (v : Value) (lv : LV) : LV := lins i v (lv.filter (fun q => !(q.1 == i) && !(q.1 + 1 == i && q.2.category == 2)))
def st2 (i : Nat) (v : Value) (lv : LV) : LV := lins i v (lv.filter (fun q => !(q.1 == i) && (!(q.1 == i + 1) && !(q.1 + 1 == i && q.2.category == 2))))
abbrev EnvT : Type := Program × Launch × Env × Room × State × MethodId × Array Value × List Frame × Method × Code × (State → Prop) × (Nat → Prop) × Nat
def G (E : EnvT) (K : KT) (kc ks : Nat) (Wd : va_W) (lv : LV) (pc : Nat) (st : List Value) : Prop :=
  match E with
  | (p, l, e, R, s, m, args, below, meth, c, Q, A, nL) => ∀ (H : Heap) (locs : List Loc) (ls : Array Slot), va_P K.1 vwCl Wd H → va_D A Wd → va_S A s.heap H locs → lv_has ls nL lv → W p l e R s m args below meth c H locs kc ks Q (F0 m pc ls st)
def Ok (E : EnvT) (K : KT) (cc : ByteArray) (own : String) (nL : Nat) (R : Room) : Prop :=
  match E with
  | (p, _, _, R1, s, m, args, _, _, c, _, A, nL1) => p.tables.exec = Jvm.exec ∧ c.code = cc ∧ c.maxLocals = nL1 ∧ s.vm.findClass own = some m.cls ∧ (∀ w ∈ lw_G, w.before args s = true) ∧ NW s ∧ va_K K.1 vwCl (tysK K) s ∧ (∀ q, s.heap.size ≤ q → A q) ∧ R1 = R ∧ nL1 = nL
theorem g_iconst {E : EnvT} {K : KT} {cc : ByteArray} {own : String} {nL : Nat} {R : Room} {kc ks : Nat} {Wd : va_W} {lv : List (Nat × Value)} {pc : Nat} {st : List Value} {n : Int} {v : Int32} (C : Ok E K cc own nL R) (d : decode cc pc = .ok (.iconst n, 1)) (hv : Int32.ofInt n = v) (k : G E K kc ks Wd lv (pc + 1) (.int v :: st)) : G E K kc ks Wd lv pc st := by
  obtain ⟨p, l, e, R1, s, m, args, below, meth, c, Q, A, nL1⟩ := E
  obtain ⟨hx, hb, hml, hown, hts, hN, hK, hA, rfl, rfl⟩ := C
  intro H locs ls hP hD hS hl
  exact lv_iconst hx hb d hv (k H locs ls hP hD hS hl)
theorem g_bipush {E : EnvT} {K : KT} {cc : ByteArray} {own : String} {nL : Nat} {R : Room} {kc ks : Nat} {Wd : va_W} {lv : List (Nat × Value)} {pc : Nat} {st : List Value} {n : Int} {v : Int32} (C : Ok E K cc own nL R) (d : decode cc pc = .ok (.bipush n, 2)) (hv : (Int8.ofInt n).toInt32 = v) (k : G E K kc ks Wd lv (pc + 2) (.int v :: st)) : G E K kc ks Wd lv pc st := by
  obtain ⟨p, l, e, R1, s, m, args, below, meth, c, Q, A, nL1⟩ := E
  obtain ⟨hx, hb, hml, hown, hts, hN, hK, hA, rfl, rfl⟩ := C
  intro H locs ls hP hD hS hl
  exact lv_bipush hx hb d hv (k H locs ls hP hD hS hl)
theorem g_sipush {E : EnvT} {K : KT} {cc : ByteArray} {own : String} {nL : Nat} {R : Room} {kc ks : Nat} {Wd : va_W} {lv : List (Nat × Value)} {pc : Nat} {st : List Value} {n : Int} {v : Int32} (C : Ok E K cc own nL R) (d : decode cc pc = .ok (.sipush n, 3)) (hv : (Int16.ofInt n).toInt32 = v) (k : G E K kc ks Wd lv (pc + 3) (.int v :: st)) : G E K kc ks Wd lv pc st := by
  obtain ⟨p, l, e, R1, s, m, args, below, meth, c, Q, A, nL1⟩ := E
  obtain ⟨hx, hb, hml, hown, hts, hN, hK, hA, rfl, rfl⟩ := C
  intro H locs ls hP hD hS hl
  exact lv_sipush hx hb d hv (k H locs ls hP hD hS hl)
theorem g_lconst {E : EnvT} {K : KT} {cc : ByteArray} {own : String} {nL : Nat} {R : Room} {kc ks : Nat} {Wd : va_W} {lv : List (Nat × Value)} {pc : Nat} {st : List Value} {n : Fin 2} {v : Int64} (C : Ok E K cc own nL R) (d : decode cc pc = .ok (.lconst n, 1)) (hv : Int64.ofNat (n : Nat) = v) (k : G E K kc ks Wd lv (pc + 1) (.long v :: st)) : G E K kc ks Wd lv pc st := by
  obtain ⟨p, l, e, R1, s, m, args, below, meth, c, Q, A, nL1⟩ := E
  obtain ⟨hx, hb, hml, hown, hts, hN, hK, hA, rfl, rfl⟩ := C
  intro H locs ls hP hD hS hl
  exact lv_lconst hx hb d hv (k H locs ls hP hD hS hl)
theorem g_ldc {E : EnvT} {K : KT} {cc : ByteArray} {own : String} {nL : Nat} {R : Room} {kc ks : Nat} {Wd : va_W} {lv : List (Nat × Value)} {pc : Nat} {st : List Value} {index : Nat} {v : Int32} (C : Ok E K cc own nL R) (d : decode cc pc = .ok (.ldc index, 2)) (hc : Cond.constant own index v ∈ lw_G) (k : G E K kc ks Wd lv (pc + 2) (.int v :: st)) : G E K kc ks Wd lv pc st := by
  obtain ⟨p, l, e, R1, s, m, args, below, meth, c, Q, A, nL1⟩ := E
  obtain ⟨hx, hb, hml, hown, hts, hN, hK, hA, rfl, rfl⟩ := C
  intro H locs ls hP hD hS hl
  exact lv_ldc hx hb hown (hts _ hc) d (k H locs ls hP hD hS hl)
theorem g_ldcw {E : EnvT} {K : KT} {cc : ByteArray} {own : String} {nL : Nat} {R : Room} {kc ks : Nat} {Wd : va_W} {lv : List (Nat × Value)} {pc : Nat} {st : List Value} {index : Nat} {v : Int32} (C : Ok E K cc own nL R) (d : decode cc pc = .ok (.ldc_w index, 3)) (hc : Cond.constant own index v ∈ lw_G) (k : G E K kc ks Wd lv (pc + 3) (.int v :: st)) : G E K kc ks Wd lv pc st := by
  obtain ⟨p, l, e, R1, s, m, args, below, meth, c, Q, A, nL1⟩ := E
  obtain ⟨hx, hb, hml, hown, hts, hN, hK, hA, rfl, rfl⟩ := C
  intro H locs ls hP hD hS hl
  exact lv_ldcw hx hb hown (hts _ hc) d (k H locs ls hP hD hS hl)
theorem g_ldc2 {E : EnvT} {K : KT} {cc : ByteArray} {own : String} {nL : Nat} {R : Room} {kc ks : Nat} {Wd : va_W} {lv : List (Nat × Value)} {pc : Nat} {st : List Value} {index : Nat} {v : Int64} (C : Ok E K cc own nL R) (d : decode cc pc = .ok (.ldc2_w index, 3)) (hc : Cond.constantLong own index v ∈ lw_G) (k : G E K kc ks Wd lv (pc + 3) (.long v :: st)) : G E K kc ks Wd lv pc st := by
  obtain ⟨p, l, e, R1, s, m, args, below, meth, c, Q, A, nL1⟩ := E
  obtain ⟨hx, hb, hml, hown, hts, hN, hK, hA, rfl, rfl⟩ := C
  intro H locs ls hP hD hS hl
  exact lv_ldc2 hx hb hown (hts _ hc) d (k H locs ls hP hD hS hl)
theorem g_iload {E : EnvT} {K : KT} {cc : ByteArray} {own : String} {nL : Nat} {R : Room} {kc ks : Nat} {Wd : va_W} {lv : List (Nat × Value)} {pc : Nat} {st : List Value} {i : Nat} {x : Int32} (C : Ok E K cc own nL R) (d : decode cc pc = .ok (.iload i, 2)) (hi : lk lv i = some (.int x)) (k : G E K kc ks Wd lv (pc + 2) (.int x :: st)) : G E K kc ks Wd lv pc st := by
  obtain ⟨p, l, e, R1, s, m, args, below, meth, c, Q, A, nL1⟩ := E
  obtain ⟨hx, hb, hml, hown, hts, hN, hK, hA, rfl, rfl⟩ := C
  intro H locs ls hP hD hS hl
  exact lv_iload hx hb d (lk_at hl hi) (k H locs ls hP hD hS hl)
theorem g_iload_n {E : EnvT} {K : KT} {cc : ByteArray} {own : String} {nL : Nat} {R : Room} {kc ks : Nat} {Wd : va_W} {lv : List (Nat × Value)} {pc : Nat} {st : List Value} {n : Fin 4} {i : Nat} {x : Int32} (C : Ok E K cc own nL R) (d : decode cc pc = .ok (.iload_n n, 1)) (hn : (n : Nat) = i) (hi : lk lv i = some (.int x)) (k : G E K kc ks Wd lv (pc + 1) (.int x :: st)) : G E K kc ks Wd lv pc st := by
  obtain ⟨p, l, e, R1, s, m, args, below, meth, c, Q, A, nL1⟩ := E
  obtain ⟨hx, hb, hml, hown, hts, hN, hK, hA, rfl, rfl⟩ := C
  intro H locs ls hP hD hS hl
  exact lv_iload_n hx hb d hn (lk_at hl hi) (k H locs ls hP hD hS hl)
theorem g_istore {E : EnvT} {K : KT} {cc : ByteArray} {own : String} {nL : Nat} {R : Room} {kc ks : Nat} {Wd : va_W} {lv : List (Nat × Value)} {pc : Nat} {st : List Value} {i : Nat} {x : Int32} {lv2 : LV} (C : Ok E K cc own nL R) (d : decode cc pc = .ok (.istore i, 2)) (hn2 : i < nL) (he : st1 i (.int x) lv = lv2) (k : G E K kc ks Wd lv2 (pc + 2) st) : G E K kc ks Wd lv pc (.int x :: st) := by
  obtain ⟨p, l, e, R1, s, m, args, below, meth, c, Q, A, nL1⟩ := E
  obtain ⟨hx, hb, hml, hown, hts, hN, hK, hA, rfl, rfl⟩ := C
  intro H locs ls hP hD hS hl
  exact lv_istore hx hb d hl hn2 rfl (fun ls2 hl2 => k H locs ls2 hP hD hS (lv_wk hl2 (fun q hq => lins_mem (by rw [← he] at hq; exact hq))))
theorem g_istore_n {E : EnvT} {K : KT} {cc : ByteArray} {own : String} {nL : Nat} {R : Room} {kc ks : Nat} {Wd : va_W} {lv : List (Nat × Value)} {pc : Nat} {st : List Value} {i : Nat} {n : Fin 4} {x : Int32} {lv2 : LV} (C : Ok E K cc own nL R) (d : decode cc pc = .ok (.istore_n n, 1)) (hn : (n : Nat) = i) (hn2 : i < nL) (he : st1 i (.int x) lv = lv2) (k : G E K kc ks Wd lv2 (pc + 1) st) : G E K kc ks Wd lv pc (.int x :: st) := by
  obtain ⟨p, l, e, R1, s, m, args, below, meth, c, Q, A, nL1⟩ := E
  obtain ⟨hx, hb, hml, hown, hts, hN, hK, hA, rfl, rfl⟩ := C
  intro H locs ls hP hD hS hl
  exact lv_istore_n hx hb d hn hl hn2 rfl (fun ls2 hl2 => k H locs ls2 hP hD hS (lv_wk hl2 (fun q hq => lins_mem (by rw [← he] at hq; exact hq))))
theorem g_lload {E : EnvT} {K : KT} {cc : ByteArray} {own : String} {nL : Nat} {R : Room} {kc ks : Nat} {Wd : va_W} {lv : List (Nat × Value)} {pc : Nat} {st : List Value} {i : Nat} {x : Int64} (C : Ok E K cc own nL R) (d : decode cc pc = .ok (.lload i, 2)) (hi : lk lv i = some (.long x)) (k : G E K kc ks Wd lv (pc + 2) (.long x :: st)) : G E K kc ks Wd lv pc st := by
  obtain ⟨p, l, e, R1, s, m, args, below, meth, c, Q, A, nL1⟩ := E
  obtain ⟨hx, hb, hml, hown, hts, hN, hK, hA, rfl, rfl⟩ := C
  intro H locs ls hP hD hS hl
  exact lv_lload hx hb d (lk_at hl hi) (k H locs ls hP hD hS hl)
theorem g_lload_n {E : EnvT} {K : KT} {cc : ByteArray} {own : String} {nL : Nat} {R : Room} {kc ks : Nat} {Wd : va_W} {lv : List (Nat × Value)} {pc : Nat} {st : List Value} {n : Fin 4} {i : Nat} {x : Int64} (C : Ok E K cc own nL R) (d : decode cc pc = .ok (.lload_n n, 1)) (hn : (n : Nat) = i) (hi : lk lv i = some (.long x)) (k : G E K kc ks Wd lv (pc + 1) (.long x :: st)) : G E K kc ks Wd lv pc st := by
  obtain ⟨p, l, e, R1, s, m, args, below, meth, c, Q, A, nL1⟩ := E
  obtain ⟨hx, hb, hml, hown, hts, hN, hK, hA, rfl, rfl⟩ := C
  intro H locs ls hP hD hS hl
  exact lv_lload_n hx hb d hn (lk_at hl hi) (k H locs ls hP hD hS hl)
theorem g_lstore {E : EnvT} {K : KT} {cc : ByteArray} {own : String} {nL : Nat} {R : Room} {kc ks : Nat} {Wd : va_W} {lv : List (Nat × Value)} {pc : Nat} {st : List Value} {i : Nat} {x : Int64} {lv2 : LV} (C : Ok E K cc own nL R) (d : decode cc pc = .ok (.lstore i, 2)) (hn2 : i + 1 < nL) (he : st2 i (.long x) lv = lv2) (k : G E K kc ks Wd lv2 (pc + 2) st) : G E K kc ks Wd lv pc (.long x :: st) := by
  obtain ⟨p, l, e, R1, s, m, args, below, meth, c, Q, A, nL1⟩ := E
  obtain ⟨hx, hb, hml, hown, hts, hN, hK, hA, rfl, rfl⟩ := C
  intro H locs ls hP hD hS hl
  exact lv_lstore hx hb d hl hn2 rfl (fun ls2 hl2 => k H locs ls2 hP hD hS (lv_wk hl2 (fun q hq => lins_mem (by rw [← he] at hq; exact hq))))
theorem g_lstore_n {E : EnvT} {K : KT} {cc : ByteArray} {own : String} {nL : Nat} {R : Room} {kc ks : Nat} {Wd : va_W} {lv : List (Nat × Value)} {pc : Nat} {st : List Value} {i : Nat} {n : Fin 4} {x : Int64} {lv2 : LV} (C : Ok E K cc own nL R) (d : decode cc pc = .ok (.lstore_n n, 1)) (hn : (n : Nat) = i) (hn2 : i + 1 < nL) (he : st2 i (.long x) lv = lv2) (k : G E K kc ks Wd lv2 (pc + 1) st) : G E K kc ks Wd lv pc (.long x :: st) := by
  obtain ⟨p, l, e, R1, s, m, args, below, meth, c, Q, A, nL1⟩ := E
  obtain ⟨hx, hb, hml, hown, hts, hN, hK, hA, rfl, rfl⟩ := C
  intro H locs ls hP hD hS hl
  exact lv_lstore_n hx hb d hn hl hn2 rfl (fun ls2 hl2 => k H locs ls2 hP hD hS (lv_wk hl2 (fun q hq => lins_mem (by rw [← he] at hq; exact hq))))
theorem g_aload {E : EnvT} {K : KT} {cc : ByteArray} {own : String} {nL : Nat} {R : Room} {kc ks : Nat} {Wd : va_W} {lv : List (Nat × Value)} {pc : Nat} {st : List Value} {i : Nat} {x : Nat} (C : Ok E K cc own nL R) (d : decode cc pc = .ok (.aload i, 2)) (hi : lk lv i = some (.ref x)) (k : G E K kc ks Wd lv (pc + 2) (.ref x :: st)) : G E K kc ks Wd lv pc st := by
  obtain ⟨p, l, e, R1, s, m, args, below, meth, c, Q, A, nL1⟩ := E
  obtain ⟨hx, hb, hml, hown, hts, hN, hK, hA, rfl, rfl⟩ := C
  intro H locs ls hP hD hS hl
  exact lv_aload hx hb d (lk_at hl hi) (k H locs ls hP hD hS hl)
theorem g_aload_n {E : EnvT} {K : KT} {cc : ByteArray} {own : String} {nL : Nat} {R : Room} {kc ks : Nat} {Wd : va_W} {lv : List (Nat × Value)} {pc : Nat} {st : List Value} {n : Fin 4} {i : Nat} {x : Nat} (C : Ok E K cc own nL R) (d : decode cc pc = .ok (.aload_n n, 1)) (hn : (n : Nat) = i) (hi : lk lv i = some (.ref x)) (k : G E K kc ks Wd lv (pc + 1) (.ref x :: st)) : G E K kc ks Wd lv pc st := by
  obtain ⟨p, l, e, R1, s, m, args, below, meth, c, Q, A, nL1⟩ := E
  obtain ⟨hx, hb, hml, hown, hts, hN, hK, hA, rfl, rfl⟩ := C
  intro H locs ls hP hD hS hl
  exact lv_aload_n hx hb d hn (lk_at hl hi) (k H locs ls hP hD hS hl)
theorem g_astore {E : EnvT} {K : KT} {cc : ByteArray} {own : String} {nL : Nat} {R : Room} {kc ks : Nat} {Wd : va_W} {lv : List (Nat × Value)} {pc : Nat} {st : List Value} {i : Nat} {x : Nat} {lv2 : LV} (C : Ok E K cc own nL R) (d : decode cc pc = .ok (.astore i, 2)) (hn2 : i < nL) (he : st1 i (.ref x) lv = lv2) (k : G E K kc ks Wd lv2 (pc + 2) st) : G E K kc ks Wd lv pc (.ref x :: st) := by
  obtain ⟨p, l, e, R1, s, m, args, below, meth, c, Q, A, nL1⟩ := E
  obtain ⟨hx, hb, hml, hown, hts, hN, hK, hA, rfl, rfl⟩ := C
  intro H locs ls hP hD hS hl
  exact lv_astore hx hb d hl hn2 rfl (fun ls2 hl2 => k H locs ls2 hP hD hS (lv_wk hl2 (fun q hq => lins_mem (by rw [← he] at hq; exact hq))))
theorem g_astore_n {E : EnvT} {K : KT} {cc : ByteArray} {own : String} {nL : Nat} {R : Room} {kc ks : Nat} {Wd : va_W} {lv : List (Nat × Value)} {pc : Nat} {st : List Value} {i : Nat} {n : Fin 4} {x : Nat} {lv2 : LV} (C : Ok E K cc own nL R) (d : decode cc pc = .ok (.astore_n n, 1)) (hn : (n : Nat) = i) (hn2 : i < nL) (he : st1 i (.ref x) lv = lv2) (k : G E K kc ks Wd lv2 (pc + 1) st) : G E K kc ks Wd lv pc (.ref x :: st) := by
  obtain ⟨p, l, e, R1, s, m, args, below, meth, c, Q, A, nL1⟩ := E
  obtain ⟨hx, hb, hml, hown, hts, hN, hK, hA, rfl, rfl⟩ := C
  intro H locs ls hP hD hS hl
  exact lv_astore_n hx hb d hn hl hn2 rfl (fun ls2 hl2 => k H locs ls2 hP hD hS (lv_wk hl2 (fun q hq => lins_mem (by rw [← he] at hq; exact hq))))
theorem g_iinc {E : EnvT} {K : KT} {cc : ByteArray} {own : String} {nL : Nat} {R : Room} {kc ks : Nat} {Wd : va_W} {lv : List (Nat × Value)} {pc : Nat} {st : List Value} {i : Nat} {n : Int} {x v : Int32} {lv2 : LV} (C : Ok E K cc own nL R) (d : decode cc pc = .ok (.iinc i n, 3)) (hi : lk lv i = some (.int x)) (hv : x + Int32.ofInt n = v) (hn2 : i < nL) (he : st1 i (.int v) lv = lv2) (k : G E K kc ks Wd lv2 (pc + 3) st) : G E K kc ks Wd lv pc st := by
  obtain ⟨p, l, e, R1, s, m, args, below, meth, c, Q, A, nL1⟩ := E
  obtain ⟨hx, hb, hml, hown, hts, hN, hK, hA, rfl, rfl⟩ := C
  intro H locs ls hP hD hS hl
  obtain ⟨j, hj⟩ := List.getElem?_of_mem (lk_mem hi)
  exact lv_iinc hx hb d hl hj hv hn2 rfl (fun ls2 hl2 => k H locs ls2 hP hD hS (lv_wk hl2 (fun q hq => lins_mem (by rw [← he] at hq; exact hq))))
theorem g_dup {E : EnvT} {K : KT} {cc : ByteArray} {own : String} {nL : Nat} {R : Room} {kc ks : Nat} {Wd : va_W} {lv : List (Nat × Value)} {pc : Nat} {st : List Value} {va : Value} (C : Ok E K cc own nL R) (d : decode cc pc = .ok (.dup, 1)) (hva : va.category = 1) (k : G E K kc ks Wd lv (pc + 1) (va :: va :: st)) : G E K kc ks Wd lv pc (va :: st) := by
  obtain ⟨p, l, e, R1, s, m, args, below, meth, c, Q, A, nL1⟩ := E
  obtain ⟨hx, hb, hml, hown, hts, hN, hK, hA, rfl, rfl⟩ := C
  intro H locs ls hP hD hS hl
  exact lv_dup hx hb d hva (k H locs ls hP hD hS hl)
theorem g_iadd {E : EnvT} {K : KT} {cc : ByteArray} {own : String} {nL : Nat} {R : Room} {kc ks : Nat} {Wd : va_W} {lv : List (Nat × Value)} {pc : Nat} {st : List Value} {x y : Int32} (C : Ok E K cc own nL R) (d : decode cc pc = .ok (.iadd, 1))  (k : G E K kc ks Wd lv (pc + 1) (.int (x + y) :: st)) : G E K kc ks Wd lv pc (.int y :: .int x :: st) := by
  obtain ⟨p, l, e, R1, s, m, args, below, meth, c, Q, A, nL1⟩ := E
  obtain ⟨hx, hb, hml, hown, hts, hN, hK, hA, rfl, rfl⟩ := C
  intro H locs ls hP hD hS hl
  exact lv_iadd hx hb d  (k H locs ls hP hD hS hl)
theorem g_isub {E : EnvT} {K : KT} {cc : ByteArray} {own : String} {nL : Nat} {R : Room} {kc ks : Nat} {Wd : va_W} {lv : List (Nat × Value)} {pc : Nat} {st : List Value} {x y : Int32} (C : Ok E K cc own nL R) (d : decode cc pc = .ok (.isub, 1))  (k : G E K kc ks Wd lv (pc + 1) (.int (x - y) :: st)) : G E K kc ks Wd lv pc (.int y :: .int x :: st) := by
  obtain ⟨p, l, e, R1, s, m, args, below, meth, c, Q, A, nL1⟩ := E
  obtain ⟨hx, hb, hml, hown, hts, hN, hK, hA, rfl, rfl⟩ := C
  intro H locs ls hP hD hS hl
  exact lv_isub hx hb d  (k H locs ls hP hD hS hl)
theorem g_imul {E : EnvT} {K : KT} {cc : ByteArray} {own : String} {nL : Nat} {R : Room} {kc ks : Nat} {Wd : va_W} {lv : List (Nat × Value)} {pc : Nat} {st : List Value} {x y : Int32} (C : Ok E K cc own nL R) (d : decode cc pc = .ok (.imul, 1))  (k : G E K kc ks Wd lv (pc + 1) (.int (x * y) :: st)) : G E K kc ks Wd lv pc (.int y :: .int x :: st) := by
  obtain ⟨p, l, e, R1, s, m, args, below, meth, c, Q, A, nL1⟩ := E
  obtain ⟨hx, hb, hml, hown, hts, hN, hK, hA, rfl, rfl⟩ := C
  intro H locs ls hP hD hS hl
  exact lv_imul hx hb d  (k H locs ls hP hD hS hl)
theorem g_iand {E : EnvT} {K : KT} {cc : ByteArray} {own : String} {nL : Nat} {R : Room} {kc ks : Nat} {Wd : va_W} {lv : List (Nat × Value)} {pc : Nat} {st : List Value} {x y : Int32} (C : Ok E K cc own nL R) (d : decode cc pc = .ok (.iand, 1))  (k : G E K kc ks Wd lv (pc + 1) (.int (x &&& y) :: st)) : G E K kc ks Wd lv pc (.int y :: .int x :: st) := by
  obtain ⟨p, l, e, R1, s, m, args, below, meth, c, Q, A, nL1⟩ := E
  obtain ⟨hx, hb, hml, hown, hts, hN, hK, hA, rfl, rfl⟩ := C
  intro H locs ls hP hD hS hl
  exact lv_iand hx hb d  (k H locs ls hP hD hS hl)
theorem g_ior {E : EnvT} {K : KT} {cc : ByteArray} {own : String} {nL : Nat} {R : Room} {kc ks : Nat} {Wd : va_W} {lv : List (Nat × Value)} {pc : Nat} {st : List Value} {x y : Int32} (C : Ok E K cc own nL R) (d : decode cc pc = .ok (.ior, 1))  (k : G E K kc ks Wd lv (pc + 1) (.int (x ||| y) :: st)) : G E K kc ks Wd lv pc (.int y :: .int x :: st) := by
  obtain ⟨p, l, e, R1, s, m, args, below, meth, c, Q, A, nL1⟩ := E
  obtain ⟨hx, hb, hml, hown, hts, hN, hK, hA, rfl, rfl⟩ := C
  intro H locs ls hP hD hS hl
  exact lv_ior hx hb d  (k H locs ls hP hD hS hl)
theorem g_ishl {E : EnvT} {K : KT} {cc : ByteArray} {own : String} {nL : Nat} {R : Room} {kc ks : Nat} {Wd : va_W} {lv : List (Nat × Value)} {pc : Nat} {st : List Value} {x y : Int32} (C : Ok E K cc own nL R) (d : decode cc pc = .ok (.ishl, 1))  (k : G E K kc ks Wd lv (pc + 1) (.int (x <<< (y &&& 31)) :: st)) : G E K kc ks Wd lv pc (.int y :: .int x :: st) := by
  obtain ⟨p, l, e, R1, s, m, args, below, meth, c, Q, A, nL1⟩ := E
  obtain ⟨hx, hb, hml, hown, hts, hN, hK, hA, rfl, rfl⟩ := C
  intro H locs ls hP hD hS hl
  exact lv_ishl hx hb d  (k H locs ls hP hD hS hl)
theorem g_ishr {E : EnvT} {K : KT} {cc : ByteArray} {own : String} {nL : Nat} {R : Room} {kc ks : Nat} {Wd : va_W} {lv : List (Nat × Value)} {pc : Nat} {st : List Value} {x y : Int32} (C : Ok E K cc own nL R) (d : decode cc pc = .ok (.ishr, 1))  (k : G E K kc ks Wd lv (pc + 1) (.int (x >>> (y &&& 31)) :: st)) : G E K kc ks Wd lv pc (.int y :: .int x :: st) := by
  obtain ⟨p, l, e, R1, s, m, args, below, meth, c, Q, A, nL1⟩ := E
  obtain ⟨hx, hb, hml, hown, hts, hN, hK, hA, rfl, rfl⟩ := C
  intro H locs ls hP hD hS hl
  exact lv_ishr hx hb d  (k H locs ls hP hD hS hl)
theorem g_iushr {E : EnvT} {K : KT} {cc : ByteArray} {own : String} {nL : Nat} {R : Room} {kc ks : Nat} {Wd : va_W} {lv : List (Nat × Value)} {pc : Nat} {st : List Value} {x y v : Int32} (C : Ok E K cc own nL R) (d : decode cc pc = .ok (.iushr, 1)) (hv : (x.toUInt32 >>> (y.toUInt32 &&& Int32.toUInt32 31)).toInt32 = v) (k : G E K kc ks Wd lv (pc + 1) (.int v :: st)) : G E K kc ks Wd lv pc (.int y :: .int x :: st) := by
  obtain ⟨p, l, e, R1, s, m, args, below, meth, c, Q, A, nL1⟩ := E
  obtain ⟨hx, hb, hml, hown, hts, hN, hK, hA, rfl, rfl⟩ := C
  intro H locs ls hP hD hS hl
  exact lv_iushr hx hb d hv (k H locs ls hP hD hS hl)
theorem g_ineg {E : EnvT} {K : KT} {cc : ByteArray} {own : String} {nL : Nat} {R : Room} {kc ks : Nat} {Wd : va_W} {lv : List (Nat × Value)} {pc : Nat} {st : List Value} {x : Int32} (C : Ok E K cc own nL R) (d : decode cc pc = .ok (.ineg, 1))  (k : G E K kc ks Wd lv (pc + 1) (.int (-x) :: st)) : G E K kc ks Wd lv pc (.int x :: st) := by
  obtain ⟨p, l, e, R1, s, m, args, below, meth, c, Q, A, nL1⟩ := E
  obtain ⟨hx, hb, hml, hown, hts, hN, hK, hA, rfl, rfl⟩ := C
  intro H locs ls hP hD hS hl
  exact lv_ineg hx hb d  (k H locs ls hP hD hS hl)
theorem g_lneg {E : EnvT} {K : KT} {cc : ByteArray} {own : String} {nL : Nat} {R : Room} {kc ks : Nat} {Wd : va_W} {lv : List (Nat × Value)} {pc : Nat} {st : List Value} {x : Int64} (C : Ok E K cc own nL R) (d : decode cc pc = .ok (.lneg, 1))  (k : G E K kc ks Wd lv (pc + 1) (.long (-x) :: st)) : G E K kc ks Wd lv pc (.long x :: st) := by
  obtain ⟨p, l, e, R1, s, m, args, below, meth, c, Q, A, nL1⟩ := E
  obtain ⟨hx, hb, hml, hown, hts, hN, hK, hA, rfl, rfl⟩ := C
  intro H locs ls hP hD hS hl
  exact lv_lneg hx hb d  (k H locs ls hP hD hS hl)
theorem g_ladd {E : EnvT} {K : KT} {cc : ByteArray} {own : String} {nL : Nat} {R : Room} {kc ks : Nat} {Wd : va_W} {lv : List (Nat × Value)} {pc : Nat} {st : List Value} {x y : Int64} (C : Ok E K cc own nL R) (d : decode cc pc = .ok (.ladd, 1))  (k : G E K kc ks Wd lv (pc + 1) (.long (x + y) :: st)) : G E K kc ks Wd lv pc (.long y :: .long x :: st) := by
  obtain ⟨p, l, e, R1, s, m, args, below, meth, c, Q, A, nL1⟩ := E
  obtain ⟨hx, hb, hml, hown, hts, hN, hK, hA, rfl, rfl⟩ := C
  intro H locs ls hP hD hS hl
  exact lv_ladd hx hb d  (k H locs ls hP hD hS hl)
theorem g_lsub {E : EnvT} {K : KT} {cc : ByteArray} {own : String} {nL : Nat} {R : Room} {kc ks : Nat} {Wd : va_W} {lv : List (Nat × Value)} {pc : Nat} {st : List Value} {x y : Int64} (C : Ok E K cc own nL R) (d : decode cc pc = .ok (.lsub, 1))  (k : G E K kc ks Wd lv (pc + 1) (.long (x - y) :: st)) : G E K kc ks Wd lv pc (.long y :: .long x :: st) := by
  obtain ⟨p, l, e, R1, s, m, args, below, meth, c, Q, A, nL1⟩ := E
  obtain ⟨hx, hb, hml, hown, hts, hN, hK, hA, rfl, rfl⟩ := C
  intro H locs ls hP hD hS hl
  exact lv_lsub hx hb d  (k H locs ls hP hD hS hl)
theorem g_lmul {E : EnvT} {K : KT} {cc : ByteArray} {own : String} {nL : Nat} {R : Room} {kc ks : Nat} {Wd : va_W} {lv : List (Nat × Value)} {pc : Nat} {st : List Value} {x y : Int64} (C : Ok E K cc own nL R) (d : decode cc pc = .ok (.lmul, 1))  (k : G E K kc ks Wd lv (pc + 1) (.long (x * y) :: st)) : G E K kc ks Wd lv pc (.long y :: .long x :: st) := by
  obtain ⟨p, l, e, R1, s, m, args, below, meth, c, Q, A, nL1⟩ := E
  obtain ⟨hx, hb, hml, hown, hts, hN, hK, hA, rfl, rfl⟩ := C
  intro H locs ls hP hD hS hl
  exact lv_lmul hx hb d  (k H locs ls hP hD hS hl)
theorem g_land {E : EnvT} {K : KT} {cc : ByteArray} {own : String} {nL : Nat} {R : Room} {kc ks : Nat} {Wd : va_W} {lv : List (Nat × Value)} {pc : Nat} {st : List Value} {x y : Int64} (C : Ok E K cc own nL R) (d : decode cc pc = .ok (.land, 1))  (k : G E K kc ks Wd lv (pc + 1) (.long (x &&& y) :: st)) : G E K kc ks Wd lv pc (.long y :: .long x :: st) := by
  obtain ⟨p, l, e, R1, s, m, args, below, meth, c, Q, A, nL1⟩ := E
  obtain ⟨hx, hb, hml, hown, hts, hN, hK, hA, rfl, rfl⟩ := C
  intro H locs ls hP hD hS hl
  exact lv_land hx hb d  (k H locs ls hP hD hS hl)
theorem g_ldiv {E : EnvT} {K : KT} {cc : ByteArray} {own : String} {nL : Nat} {R : Room} {kc ks : Nat} {Wd : va_W} {lv : List (Nat × Value)} {pc : Nat} {st : List Value} {x y : Int64} (C : Ok E K cc own nL R) (d : decode cc pc = .ok (.ldiv, 1)) (hne : ¬ y = 0) (k : G E K kc ks Wd lv (pc + 1) (.long (x / y) :: st)) : G E K kc ks Wd lv pc (.long y :: .long x :: st) := by
  obtain ⟨p, l, e, R1, s, m, args, below, meth, c, Q, A, nL1⟩ := E
  obtain ⟨hx, hb, hml, hown, hts, hN, hK, hA, rfl, rfl⟩ := C
  intro H locs ls hP hD hS hl
  exact lv_ldiv hx hb d hne (k H locs ls hP hD hS hl)
theorem g_lrem {E : EnvT} {K : KT} {cc : ByteArray} {own : String} {nL : Nat} {R : Room} {kc ks : Nat} {Wd : va_W} {lv : List (Nat × Value)} {pc : Nat} {st : List Value} {x y : Int64} (C : Ok E K cc own nL R) (d : decode cc pc = .ok (.lrem, 1)) (hne : ¬ y = 0) (k : G E K kc ks Wd lv (pc + 1) (.long (x - x / y * y) :: st)) : G E K kc ks Wd lv pc (.long y :: .long x :: st) := by
  obtain ⟨p, l, e, R1, s, m, args, below, meth, c, Q, A, nL1⟩ := E
  obtain ⟨hx, hb, hml, hown, hts, hN, hK, hA, rfl, rfl⟩ := C
  intro H locs ls hP hD hS hl
  exact lv_lrem hx hb d hne (k H locs ls hP hD hS hl)
theorem g_lshl {E : EnvT} {K : KT} {cc : ByteArray} {own : String} {nL : Nat} {R : Room} {kc ks : Nat} {Wd : va_W} {lv : List (Nat × Value)} {pc : Nat} {st : List Value} {x v : Int64} {y : Int32} (C : Ok E K cc own nL R) (d : decode cc pc = .ok (.lshl, 1)) (hv : x <<< (y.toInt64 &&& 63) = v) (k : G E K kc ks Wd lv (pc + 1) (.long v :: st)) : G E K kc ks Wd lv pc (.int y :: .long x :: st) := by
  obtain ⟨p, l, e, R1, s, m, args, below, meth, c, Q, A, nL1⟩ := E
  obtain ⟨hx, hb, hml, hown, hts, hN, hK, hA, rfl, rfl⟩ := C
  intro H locs ls hP hD hS hl
  exact lv_lshl hx hb d hv (k H locs ls hP hD hS hl)
theorem g_lshr {E : EnvT} {K : KT} {cc : ByteArray} {own : String} {nL : Nat} {R : Room} {kc ks : Nat} {Wd : va_W} {lv : List (Nat × Value)} {pc : Nat} {st : List Value} {x v : Int64} {y : Int32} (C : Ok E K cc own nL R) (d : decode cc pc = .ok (.lshr, 1)) (hv : x >>> (y.toInt64 &&& 63) = v) (k : G E K kc ks Wd lv (pc + 1) (.long v :: st)) : G E K kc ks Wd lv pc (.int y :: .long x :: st) := by
  obtain ⟨p, l, e, R1, s, m, args, below, meth, c, Q, A, nL1⟩ := E
  obtain ⟨hx, hb, hml, hown, hts, hN, hK, hA, rfl, rfl⟩ := C
  intro H locs ls hP hD hS hl
  exact lv_lshr hx hb d hv (k H locs ls hP hD hS hl)
theorem g_lushr {E : EnvT} {K : KT} {cc : ByteArray} {own : String} {nL : Nat} {R : Room} {kc ks : Nat} {Wd : va_W} {lv : List (Nat × Value)} {pc : Nat} {st : List Value} {x v : Int64} {y : Int32} (C : Ok E K cc own nL R) (d : decode cc pc = .ok (.lushr, 1)) (hv : (x.toUInt64 >>> (y.toInt64.toUInt64 &&& Int64.toUInt64 63)).toInt64 = v) (k : G E K kc ks Wd lv (pc + 1) (.long v :: st)) : G E K kc ks Wd lv pc (.int y :: .long x :: st) := by
  obtain ⟨p, l, e, R1, s, m, args, below, meth, c, Q, A, nL1⟩ := E
  obtain ⟨hx, hb, hml, hown, hts, hN, hK, hA, rfl, rfl⟩ := C
  intro H locs ls hP hD hS hl
  exact lv_lushr hx hb d hv (k H locs ls hP hD hS hl)
theorem g_i2l {E : EnvT} {K : KT} {cc : ByteArray} {own : String} {nL : Nat} {R : Room} {kc ks : Nat} {Wd : va_W} {lv : List (Nat × Value)} {pc : Nat} {st : List Value} {x : Int32} {v : Int64} (C : Ok E K cc own nL R) (d : decode cc pc = .ok (.i2l, 1)) (hv : x.toInt64 = v) (k : G E K kc ks Wd lv (pc + 1) (.long v :: st)) : G E K kc ks Wd lv pc (.int x :: st) := by
  obtain ⟨p, l, e, R1, s, m, args, below, meth, c, Q, A, nL1⟩ := E
  obtain ⟨hx, hb, hml, hown, hts, hN, hK, hA, rfl, rfl⟩ := C
  intro H locs ls hP hD hS hl
  exact lv_i2l hx hb d hv (k H locs ls hP hD hS hl)
theorem g_l2i {E : EnvT} {K : KT} {cc : ByteArray} {own : String} {nL : Nat} {R : Room} {kc ks : Nat} {Wd : va_W} {lv : List (Nat × Value)} {pc : Nat} {st : List Value} {x : Int64} {v : Int32} (C : Ok E K cc own nL R) (d : decode cc pc = .ok (.l2i, 1)) (hv : x.toInt32 = v) (k : G E K kc ks Wd lv (pc + 1) (.int v :: st)) : G E K kc ks Wd lv pc (.long x :: st) := by
  obtain ⟨p, l, e, R1, s, m, args, below, meth, c, Q, A, nL1⟩ := E
  obtain ⟨hx, hb, hml, hown, hts, hN, hK, hA, rfl, rfl⟩ := C
  intro H locs ls hP hD hS hl
  exact lv_l2i hx hb d hv (k H locs ls hP hD hS hl)
theorem g_goto {E : EnvT} {K : KT} {cc : ByteArray} {own : String} {nL : Nat} {R : Room} {kc ks : Nat} {Wd : va_W} {lv : List (Nat × Value)} {pc : Nat} {st : List Value} {off : Int} {tgt : Nat} (C : Ok E K cc own nL R) (d : decode cc pc = .ok (.goto off, 3)) (ht : (pc : Int) + off = (tgt : Int)) (k : G E K kc ks Wd lv tgt st) : G E K kc ks Wd lv pc st := by
  obtain ⟨p, l, e, R1, s, m, args, below, meth, c, Q, A, nL1⟩ := E
  obtain ⟨hx, hb, hml, hown, hts, hN, hK, hA, rfl, rfl⟩ := C
  intro H locs ls hP hD hS hl
  exact lv_goto hx hb d ht (k H locs ls hP hD hS hl)
theorem g_if_eq {E : EnvT} {K : KT} {cc : ByteArray} {own : String} {nL : Nat} {R : Room} {kc ks : Nat} {Wd : va_W} {lv : List (Nat × Value)} {pc : Nat} {st : List Value} {x : Int32} {off : Int} {tgt : Nat} (C : Ok E K cc own nL R) (d : decode cc pc = .ok (.ifCond .eq off, 3)) (ht : (pc : Int) + off = (tgt : Int)) (kt : x = 0 → G E K kc ks Wd lv tgt st) (kf : ¬ x = 0 → G E K kc ks Wd lv (pc + 3) st) : G E K kc ks Wd lv pc (.int x :: st) := by
  obtain ⟨p, l, e, R1, s, m, args, below, meth, c, Q, A, nL1⟩ := E
  obtain ⟨hx, hb, hml, hown, hts, hN, hK, hA, rfl, rfl⟩ := C
  intro H locs ls hP hD hS hl
  exact lv_if_eq hx hb d ht (fun q => kt q H locs ls hP hD hS hl) (fun q => kf q H locs ls hP hD hS hl)
theorem g_if_ne {E : EnvT} {K : KT} {cc : ByteArray} {own : String} {nL : Nat} {R : Room} {kc ks : Nat} {Wd : va_W} {lv : List (Nat × Value)} {pc : Nat} {st : List Value} {x : Int32} {off : Int} {tgt : Nat} (C : Ok E K cc own nL R) (d : decode cc pc = .ok (.ifCond .ne off, 3)) (ht : (pc : Int) + off = (tgt : Int)) (kt : ¬ x = 0 → G E K kc ks Wd lv tgt st) (kf : x = 0 → G E K kc ks Wd lv (pc + 3) st) : G E K kc ks Wd lv pc (.int x :: st) := by
  obtain ⟨p, l, e, R1, s, m, args, below, meth, c, Q, A, nL1⟩ := E
  obtain ⟨hx, hb, hml, hown, hts, hN, hK, hA, rfl, rfl⟩ := C
  intro H locs ls hP hD hS hl
  exact lv_if_ne hx hb d ht (fun q => kt q H locs ls hP hD hS hl) (fun q => kf q H locs ls hP hD hS hl)
theorem g_if_lt {E : EnvT} {K : KT} {cc : ByteArray} {own : String} {nL : Nat} {R : Room} {kc ks : Nat} {Wd : va_W} {lv : List (Nat × Value)} {pc : Nat} {st : List Value} {x : Int32} {off : Int} {tgt : Nat} (C : Ok E K cc own nL R) (d : decode cc pc = .ok (.ifCond .lt off, 3)) (ht : (pc : Int) + off = (tgt : Int)) (kt : x < 0 → G E K kc ks Wd lv tgt st) (kf : ¬ x < 0 → G E K kc ks Wd lv (pc + 3) st) : G E K kc ks Wd lv pc (.int x :: st) := by
  obtain ⟨p, l, e, R1, s, m, args, below, meth, c, Q, A, nL1⟩ := E
  obtain ⟨hx, hb, hml, hown, hts, hN, hK, hA, rfl, rfl⟩ := C
  intro H locs ls hP hD hS hl
  exact lv_if_lt hx hb d ht (fun q => kt q H locs ls hP hD hS hl) (fun q => kf q H locs ls hP hD hS hl)
theorem g_if_ge {E : EnvT} {K : KT} {cc : ByteArray} {own : String} {nL : Nat} {R : Room} {kc ks : Nat} {Wd : va_W} {lv : List (Nat × Value)} {pc : Nat} {st : List Value} {x : Int32} {off : Int} {tgt : Nat} (C : Ok E K cc own nL R) (d : decode cc pc = .ok (.ifCond .ge off, 3)) (ht : (pc : Int) + off = (tgt : Int)) (kt : 0 ≤ x → G E K kc ks Wd lv tgt st) (kf : ¬ 0 ≤ x → G E K kc ks Wd lv (pc + 3) st) : G E K kc ks Wd lv pc (.int x :: st) := by
  obtain ⟨p, l, e, R1, s, m, args, below, meth, c, Q, A, nL1⟩ := E
  obtain ⟨hx, hb, hml, hown, hts, hN, hK, hA, rfl, rfl⟩ := C
  intro H locs ls hP hD hS hl
  exact lv_if_ge hx hb d ht (fun q => kt q H locs ls hP hD hS hl) (fun q => kf q H locs ls hP hD hS hl)
theorem g_if_gt {E : EnvT} {K : KT} {cc : ByteArray} {own : String} {nL : Nat} {R : Room} {kc ks : Nat} {Wd : va_W} {lv : List (Nat × Value)} {pc : Nat} {st : List Value} {x : Int32} {off : Int} {tgt : Nat} (C : Ok E K cc own nL R) (d : decode cc pc = .ok (.ifCond .gt off, 3)) (ht : (pc : Int) + off = (tgt : Int)) (kt : 0 < x → G E K kc ks Wd lv tgt st) (kf : ¬ 0 < x → G E K kc ks Wd lv (pc + 3) st) : G E K kc ks Wd lv pc (.int x :: st) := by
  obtain ⟨p, l, e, R1, s, m, args, below, meth, c, Q, A, nL1⟩ := E
  obtain ⟨hx, hb, hml, hown, hts, hN, hK, hA, rfl, rfl⟩ := C
  intro H locs ls hP hD hS hl
  exact lv_if_gt hx hb d ht (fun q => kt q H locs ls hP hD hS hl) (fun q => kf q H locs ls hP hD hS hl)
theorem g_if_le {E : EnvT} {K : KT} {cc : ByteArray} {own : String} {nL : Nat} {R : Room} {kc ks : Nat} {Wd : va_W} {lv : List (Nat × Value)} {pc : Nat} {st : List Value} {x : Int32} {off : Int} {tgt : Nat} (C : Ok E K cc own nL R) (d : decode cc pc = .ok (.ifCond .le off, 3)) (ht : (pc : Int) + off = (tgt : Int)) (kt : x ≤ 0 → G E K kc ks Wd lv tgt st) (kf : ¬ x ≤ 0 → G E K kc ks Wd lv (pc + 3) st) : G E K kc ks Wd lv pc (.int x :: st) := by
  obtain ⟨p, l, e, R1, s, m, args, below, meth, c, Q, A, nL1⟩ := E
  obtain ⟨hx, hb, hml, hown, hts, hN, hK, hA, rfl, rfl⟩ := C
  intro H locs ls hP hD hS hl
  exact lv_if_le hx hb d ht (fun q => kt q H locs ls hP hD hS hl) (fun q => kf q H locs ls hP hD hS hl)
theorem g_icmp_eq {E : EnvT} {K : KT} {cc : ByteArray} {own : String} {nL : Nat} {R : Room} {kc ks : Nat} {Wd : va_W} {lv : List (Nat × Value)} {pc : Nat} {st : List Value} {x y : Int32} {off : Int} {tgt : Nat} (C : Ok E K cc own nL R) (d : decode cc pc = .ok (.if_icmp .eq off, 3)) (ht : (pc : Int) + off = (tgt : Int)) (kt : x = y → G E K kc ks Wd lv tgt st) (kf : ¬ x = y → G E K kc ks Wd lv (pc + 3) st) : G E K kc ks Wd lv pc (.int y :: .int x :: st) := by
  obtain ⟨p, l, e, R1, s, m, args, below, meth, c, Q, A, nL1⟩ := E
  obtain ⟨hx, hb, hml, hown, hts, hN, hK, hA, rfl, rfl⟩ := C
  intro H locs ls hP hD hS hl
  exact lv_icmp_eq hx hb d ht (fun q => kt q H locs ls hP hD hS hl) (fun q => kf q H locs ls hP hD hS hl)
theorem g_icmp_ne {E : EnvT} {K : KT} {cc : ByteArray} {own : String} {nL : Nat} {R : Room} {kc ks : Nat} {Wd : va_W} {lv : List (Nat × Value)} {pc : Nat} {st : List Value} {x y : Int32} {off : Int} {tgt : Nat} (C : Ok E K cc own nL R) (d : decode cc pc = .ok (.if_icmp .ne off, 3)) (ht : (pc : Int) + off = (tgt : Int)) (kt : ¬ x = y → G E K kc ks Wd lv tgt st) (kf : x = y → G E K kc ks Wd lv (pc + 3) st) : G E K kc ks Wd lv pc (.int y :: .int x :: st) := by
  obtain ⟨p, l, e, R1, s, m, args, below, meth, c, Q, A, nL1⟩ := E
  obtain ⟨hx, hb, hml, hown, hts, hN, hK, hA, rfl, rfl⟩ := C
  intro H locs ls hP hD hS hl
  exact lv_icmp_ne hx hb d ht (fun q => kt q H locs ls hP hD hS hl) (fun q => kf q H locs ls hP hD hS hl)
theorem g_icmp_lt {E : EnvT} {K : KT} {cc : ByteArray} {own : String} {nL : Nat} {R : Room} {kc ks : Nat} {Wd : va_W} {lv : List (Nat × Value)} {pc : Nat} {st : List Value} {x y : Int32} {off : Int} {tgt : Nat} (C : Ok E K cc own nL R) (d : decode cc pc = .ok (.if_icmp .lt off, 3)) (ht : (pc : Int) + off = (tgt : Int)) (kt : x < y → G E K kc ks Wd lv tgt st) (kf : ¬ x < y → G E K kc ks Wd lv (pc + 3) st) : G E K kc ks Wd lv pc (.int y :: .int x :: st) := by
  obtain ⟨p, l, e, R1, s, m, args, below, meth, c, Q, A, nL1⟩ := E
  obtain ⟨hx, hb, hml, hown, hts, hN, hK, hA, rfl, rfl⟩ := C
  intro H locs ls hP hD hS hl
  exact lv_icmp_lt hx hb d ht (fun q => kt q H locs ls hP hD hS hl) (fun q => kf q H locs ls hP hD hS hl)
theorem g_icmp_ge {E : EnvT} {K : KT} {cc : ByteArray} {own : String} {nL : Nat} {R : Room} {kc ks : Nat} {Wd : va_W} {lv : List (Nat × Value)} {pc : Nat} {st : List Value} {x y : Int32} {off : Int} {tgt : Nat} (C : Ok E K cc own nL R) (d : decode cc pc = .ok (.if_icmp .ge off, 3)) (ht : (pc : Int) + off = (tgt : Int)) (kt : y ≤ x → G E K kc ks Wd lv tgt st) (kf : ¬ y ≤ x → G E K kc ks Wd lv (pc + 3) st) : G E K kc ks Wd lv pc (.int y :: .int x :: st) := by
  obtain ⟨p, l, e, R1, s, m, args, below, meth, c, Q, A, nL1⟩ := E
  obtain ⟨hx, hb, hml, hown, hts, hN, hK, hA, rfl, rfl⟩ := C
  intro H locs ls hP hD hS hl
  exact lv_icmp_ge hx hb d ht (fun q => kt q H locs ls hP hD hS hl) (fun q => kf q H locs ls hP hD hS hl)
theorem g_icmp_gt {E : EnvT} {K : KT} {cc : ByteArray} {own : String} {nL : Nat} {R : Room} {kc ks : Nat} {Wd : va_W} {lv : List (Nat × Value)} {pc : Nat} {st : List Value} {x y : Int32} {off : Int} {tgt : Nat} (C : Ok E K cc own nL R) (d : decode cc pc = .ok (.if_icmp .gt off, 3)) (ht : (pc : Int) + off = (tgt : Int)) (kt : y < x → G E K kc ks Wd lv tgt st) (kf : ¬ y < x → G E K kc ks Wd lv (pc + 3) st) : G E K kc ks Wd lv pc (.int y :: .int x :: st) := by
  obtain ⟨p, l, e, R1, s, m, args, below, meth, c, Q, A, nL1⟩ := E
  obtain ⟨hx, hb, hml, hown, hts, hN, hK, hA, rfl, rfl⟩ := C
  intro H locs ls hP hD hS hl
  exact lv_icmp_gt hx hb d ht (fun q => kt q H locs ls hP hD hS hl) (fun q => kf q H locs ls hP hD hS hl)
theorem g_icmp_le {E : EnvT} {K : KT} {cc : ByteArray} {own : String} {nL : Nat} {R : Room} {kc ks : Nat} {Wd : va_W} {lv : List (Nat × Value)} {pc : Nat} {st : List Value} {x y : Int32} {off : Int} {tgt : Nat} (C : Ok E K cc own nL R) (d : decode cc pc = .ok (.if_icmp .le off, 3)) (ht : (pc : Int) + off = (tgt : Int)) (kt : x ≤ y → G E K kc ks Wd lv tgt st) (kf : ¬ x ≤ y → G E K kc ks Wd lv (pc + 3) st) : G E K kc ks Wd lv pc (.int y :: .int x :: st) := by
  obtain ⟨p, l, e, R1, s, m, args, below, meth, c, Q, A, nL1⟩ := E
  obtain ⟨hx, hb, hml, hown, hts, hN, hK, hA, rfl, rfl⟩ := C
  intro H locs ls hP hD hS hl
  exact lv_icmp_le hx hb d ht (fun q => kt q H locs ls hP hD hS hl) (fun q => kf q H locs ls hP hD hS hl)
theorem lg_eq (x y : Int64) : lg_cmp x y = 0 ↔ x = y := by
  unfold lg_cmp
  by_cases h : y < x
  · rw [if_pos h]
    exact ⟨fun q => absurd q (by decide), fun q => absurd (q ▸ h) (by rw [Int64.lt_iff_toInt_lt]; omega)⟩
  · rw [if_neg h]
    by_cases h2 : x = y
    · rw [if_pos h2]; exact ⟨fun _ => h2, fun _ => rfl⟩
    · rw [if_neg h2]; exact ⟨fun q => absurd q (by decide), fun q => absurd q h2⟩
theorem lg_lt (x y : Int64) : lg_cmp x y < 0 ↔ x < y := by
  unfold lg_cmp
  by_cases h : y < x
  · rw [if_pos h]
    exact ⟨fun q => absurd q (by decide), fun q => by rw [Int64.lt_iff_toInt_lt] at q h; omega⟩
  · rw [if_neg h]
    by_cases h2 : x = y
    · rw [if_pos h2]; exact ⟨fun q => absurd q (by decide), fun q => by rw [h2, Int64.lt_iff_toInt_lt] at q; omega⟩
    · rw [if_neg h2]
      refine ⟨fun _ => ?_, fun _ => by decide⟩
      rw [Int64.lt_iff_toInt_lt] at h ⊢
      have h3 : x.toInt ≠ y.toInt := fun q => h2 (Int64.toInt_inj.mp q)
      omega
theorem lg_gt (x y : Int64) : 0 < lg_cmp x y ↔ y < x := by
  unfold lg_cmp
  by_cases h : y < x
  · rw [if_pos h]; exact ⟨fun _ => h, fun _ => by decide⟩
  · rw [if_neg h]
    by_cases h2 : x = y
    · rw [if_pos h2]; exact ⟨fun q => absurd q (by decide), fun q => absurd q h⟩
    · rw [if_neg h2]; exact ⟨fun q => absurd q (by decide), fun q => absurd q h⟩
theorem lg_ge (x y : Int64) : 0 ≤ lg_cmp x y ↔ y ≤ x := by
  unfold lg_cmp
  by_cases h : y < x
  · rw [if_pos h]; exact ⟨fun _ => by rw [Int64.lt_iff_toInt_lt] at h; rw [Int64.le_iff_toInt_le]; omega, fun _ => by decide⟩
  · rw [if_neg h]
    by_cases h2 : x = y
    · rw [if_pos h2]; exact ⟨fun _ => by rw [h2, Int64.le_iff_toInt_le]; omega, fun _ => by decide⟩
    · rw [if_neg h2]
      refine ⟨fun q => absurd q (by decide), fun q => ?_⟩
      rw [Int64.lt_iff_toInt_lt] at h
      rw [Int64.le_iff_toInt_le] at q
      have h3 : x.toInt ≠ y.toInt := fun q => h2 (Int64.toInt_inj.mp q)
      omega
theorem lg_le (x y : Int64) : lg_cmp x y ≤ 0 ↔ x ≤ y := by
  unfold lg_cmp
  by_cases h : y < x
  · rw [if_pos h]; exact ⟨fun q => absurd q (by decide), fun q => by rw [Int64.lt_iff_toInt_lt] at h; rw [Int64.le_iff_toInt_le] at q; omega⟩
  · rw [if_neg h]
    by_cases h2 : x = y
    · rw [if_pos h2]; exact ⟨fun _ => by rw [h2, Int64.le_iff_toInt_le]; omega, fun _ => by decide⟩
    · rw [if_neg h2]
      refine ⟨fun _ => ?_, fun _ => by decide⟩
      rw [Int64.lt_iff_toInt_lt] at h
      rw [Int64.le_iff_toInt_le]
      omega
theorem g_lcmp_eq {E : EnvT} {K : KT} {cc : ByteArray} {own : String} {nL : Nat} {R : Room} {kc ks : Nat} {Wd : va_W} {lv : List (Nat × Value)} {pc : Nat} {st : List Value} {x y : Int64} {off : Int} {tgt : Nat} (C : Ok E K cc own nL R) (d : decode cc pc = .ok (.lcmp, 1)) (d2 : decode cc (pc + 1) = .ok (.ifCond .eq off, 3)) (ht : ((pc + 1 : Nat) : Int) + off = (tgt : Int)) (kt : x = y → G E K kc ks Wd lv tgt st) (kf : ¬ x = y → G E K kc ks Wd lv (pc + 1 + 3) st) : G E K kc ks Wd lv pc (.long y :: .long x :: st) := by
  obtain ⟨p, l, e, R1, s, m, args, below, meth, c, Q, A, nL1⟩ := E
  obtain ⟨hx, hb, hml, hown, hts, hN, hK, hA, rfl, rfl⟩ := C
  intro H locs ls hP hD hS hl
  exact W.lcmp hx hb d (lv_if_eq hx hb d2 ht (fun q => kt ((lg_eq x y).mp q) H locs ls hP hD hS hl) (fun q => kf (fun z => q ((lg_eq x y).mpr z)) H locs ls hP hD hS hl))
theorem g_lcmp_ne {E : EnvT} {K : KT} {cc : ByteArray} {own : String} {nL : Nat} {R : Room} {kc ks : Nat} {Wd : va_W} {lv : List (Nat × Value)} {pc : Nat} {st : List Value} {x y : Int64} {off : Int} {tgt : Nat} (C : Ok E K cc own nL R) (d : decode cc pc = .ok (.lcmp, 1)) (d2 : decode cc (pc + 1) = .ok (.ifCond .ne off, 3)) (ht : ((pc + 1 : Nat) : Int) + off = (tgt : Int)) (kt : ¬ x = y → G E K kc ks Wd lv tgt st) (kf : x = y → G E K kc ks Wd lv (pc + 1 + 3) st) : G E K kc ks Wd lv pc (.long y :: .long x :: st) := by
  obtain ⟨p, l, e, R1, s, m, args, below, meth, c, Q, A, nL1⟩ := E
  obtain ⟨hx, hb, hml, hown, hts, hN, hK, hA, rfl, rfl⟩ := C
  intro H locs ls hP hD hS hl
  exact W.lcmp hx hb d (lv_if_ne hx hb d2 ht (fun q => kt (fun z => q ((lg_eq x y).mpr z)) H locs ls hP hD hS hl) (fun q => kf ((lg_eq x y).mp q) H locs ls hP hD hS hl))
theorem g_lcmp_lt {E : EnvT} {K : KT} {cc : ByteArray} {own : String} {nL : Nat} {R : Room} {kc ks : Nat} {Wd : va_W} {lv : List (Nat × Value)} {pc : Nat} {st : List Value} {x y : Int64} {off : Int} {tgt : Nat} (C : Ok E K cc own nL R) (d : decode cc pc = .ok (.lcmp, 1)) (d2 : decode cc (pc + 1) = .ok (.ifCond .lt off, 3)) (ht : ((pc + 1 : Nat) : Int) + off = (tgt : Int)) (kt : x < y → G E K kc ks Wd lv tgt st) (kf : ¬ x < y → G E K kc ks Wd lv (pc + 1 + 3) st) : G E K kc ks Wd lv pc (.long y :: .long x :: st) := by
  obtain ⟨p, l, e, R1, s, m, args, below, meth, c, Q, A, nL1⟩ := E
  obtain ⟨hx, hb, hml, hown, hts, hN, hK, hA, rfl, rfl⟩ := C
  intro H locs ls hP hD hS hl
  exact W.lcmp hx hb d (lv_if_lt hx hb d2 ht (fun q => kt ((lg_lt x y).mp q) H locs ls hP hD hS hl) (fun q => kf (fun z => q ((lg_lt x y).mpr z)) H locs ls hP hD hS hl))
theorem g_lcmp_ge {E : EnvT} {K : KT} {cc : ByteArray} {own : String} {nL : Nat} {R : Room} {kc ks : Nat} {Wd : va_W} {lv : List (Nat × Value)} {pc : Nat} {st : List Value} {x y : Int64} {off : Int} {tgt : Nat} (C : Ok E K cc own nL R) (d : decode cc pc = .ok (.lcmp, 1)) (d2 : decode cc (pc + 1) = .ok (.ifCond .ge off, 3)) (ht : ((pc + 1 : Nat) : Int) + off = (tgt : Int)) (kt : y ≤ x → G E K kc ks Wd lv tgt st) (kf : ¬ y ≤ x → G E K kc ks Wd lv (pc + 1 + 3) st) : G E K kc ks Wd lv pc (.long y :: .long x :: st) := by
  obtain ⟨p, l, e, R1, s, m, args, below, meth, c, Q, A, nL1⟩ := E
  obtain ⟨hx, hb, hml, hown, hts, hN, hK, hA, rfl, rfl⟩ := C
  intro H locs ls hP hD hS hl
  exact W.lcmp hx hb d (lv_if_ge hx hb d2 ht (fun q => kt ((lg_ge x y).mp q) H locs ls hP hD hS hl) (fun q => kf (fun z => q ((lg_ge x y).mpr z)) H locs ls hP hD hS hl))
theorem g_lcmp_gt {E : EnvT} {K : KT} {cc : ByteArray} {own : String} {nL : Nat} {R : Room} {kc ks : Nat} {Wd : va_W} {lv : List (Nat × Value)} {pc : Nat} {st : List Value} {x y : Int64} {off : Int} {tgt : Nat} (C : Ok E K cc own nL R) (d : decode cc pc = .ok (.lcmp, 1)) (d2 : decode cc (pc + 1) = .ok (.ifCond .gt off, 3)) (ht : ((pc + 1 : Nat) : Int) + off = (tgt : Int)) (kt : y < x → G E K kc ks Wd lv tgt st) (kf : ¬ y < x → G E K kc ks Wd lv (pc + 1 + 3) st) : G E K kc ks Wd lv pc (.long y :: .long x :: st) := by
  obtain ⟨p, l, e, R1, s, m, args, below, meth, c, Q, A, nL1⟩ := E
  obtain ⟨hx, hb, hml, hown, hts, hN, hK, hA, rfl, rfl⟩ := C
  intro H locs ls hP hD hS hl
  exact W.lcmp hx hb d (lv_if_gt hx hb d2 ht (fun q => kt ((lg_gt x y).mp q) H locs ls hP hD hS hl) (fun q => kf (fun z => q ((lg_gt x y).mpr z)) H locs ls hP hD hS hl))
theorem g_lcmp_le {E : EnvT} {K : KT} {cc : ByteArray} {own : String} {nL : Nat} {R : Room} {kc ks : Nat} {Wd : va_W} {lv : List (Nat × Value)} {pc : Nat} {st : List Value} {x y : Int64} {off : Int} {tgt : Nat} (C : Ok E K cc own nL R) (d : decode cc pc = .ok (.lcmp, 1)) (d2 : decode cc (pc + 1) = .ok (.ifCond .le off, 3)) (ht : ((pc + 1 : Nat) : Int) + off = (tgt : Int)) (kt : x ≤ y → G E K kc ks Wd lv tgt st) (kf : ¬ x ≤ y → G E K kc ks Wd lv (pc + 1 + 3) st) : G E K kc ks Wd lv pc (.long y :: .long x :: st) := by
  obtain ⟨p, l, e, R1, s, m, args, below, meth, c, Q, A, nL1⟩ := E
  obtain ⟨hx, hb, hml, hown, hts, hN, hK, hA, rfl, rfl⟩ := C
  intro H locs ls hP hD hS hl
  exact W.lcmp hx hb d (lv_if_le hx hb d2 ht (fun q => kt ((lg_le x y).mp q) H locs ls hP hD hS hl) (fun q => kf (fun z => q ((lg_le x y).mpr z)) H locs ls hP hD hS hl))
def bz (b : Bool) : Int32 := bif b then 1 else 0
theorem bz_0 {b : Bool} : bz b = 0 ↔ b = false := by cases b <;> decide
theorem g_bz_eq {E : EnvT} {K : KT} {cc : ByteArray} {own : String} {nL : Nat} {R : Room} {kc ks : Nat} {Wd : va_W} {lv : List (Nat × Value)} {pc : Nat} {st : List Value} {b : Bool} {off : Int} {tgt : Nat} (C : Ok E K cc own nL R) (d : decode cc pc = .ok (.ifCond .eq off, 3)) (ht : (pc : Int) + off = (tgt : Int)) (kt : b = false → G E K kc ks Wd lv tgt st) (kf : b = true → G E K kc ks Wd lv (pc + 3) st) : G E K kc ks Wd lv pc (.int (bz b) :: st) := g_if_eq C d ht (fun q => kt (bz_0.mp q)) (fun q => kf (by cases b; exact absurd rfl q; rfl))
theorem g_bz_ne {E : EnvT} {K : KT} {cc : ByteArray} {own : String} {nL : Nat} {R : Room} {kc ks : Nat} {Wd : va_W} {lv : List (Nat × Value)} {pc : Nat} {st : List Value} {b : Bool} {off : Int} {tgt : Nat} (C : Ok E K cc own nL R) (d : decode cc pc = .ok (.ifCond .ne off, 3)) (ht : (pc : Int) + off = (tgt : Int)) (kt : b = true → G E K kc ks Wd lv tgt st) (kf : b = false → G E K kc ks Wd lv (pc + 3) st) : G E K kc ks Wd lv pc (.int (bz b) :: st) := g_if_ne C d ht (fun q => kt (by cases b; exact absurd rfl q; rfl)) (fun q => kf (bz_0.mp q))
theorem g_topi {E : EnvT} {K : KT} {kc ks : Nat} {Wd : va_W} {lv : LV} {pc : Nat} {st : List Value} {x : Int32} (k : ∀ y : Int32, y = x → G E K kc ks Wd lv pc (.int y :: st)) : G E K kc ks Wd lv pc (.int x :: st) := k x rfl
theorem g_topl {E : EnvT} {K : KT} {kc ks : Nat} {Wd : va_W} {lv : LV} {pc : Nat} {st : List Value} {x : Int64} (k : ∀ y : Int64, y = x → G E K kc ks Wd lv pc (.long y :: st)) : G E K kc ks Wd lv pc (.long x :: st) := k x rfl
theorem g_eqi {E : EnvT} {K : KT} {kc ks : Nat} {Wd : va_W} {lv : LV} {pc : Nat} {st : List Value} {x y : Int32} (h : x = y) (k : G E K kc ks Wd lv pc (.int y :: st)) : G E K kc ks Wd lv pc (.int x :: st) := h ▸ k
theorem g_eql {E : EnvT} {K : KT} {kc ks : Nat} {Wd : va_W} {lv : LV} {pc : Nat} {st : List Value} {x y : Int64} (h : x = y) (k : G E K kc ks Wd lv pc (.long y :: st)) : G E K kc ks Wd lv pc (.long x :: st) := h ▸ k
theorem g_eqw {E : EnvT} {K : KT} {kc ks : Nat} {Wd Wd2 : va_W} {lv : LV} {pc : Nat} {st : List Value} (h : Wd = Wd2) (k : G E K kc ks Wd2 lv pc st) : G E K kc ks Wd lv pc st := h ▸ k
theorem g_lv {E : EnvT} {K : KT} {kc ks : Nat} {Wd : va_W} {lv : LV} (lv2 : LV) {pc : Nat} {st : List Value} (h : ∀ q ∈ lv2, q ∈ lv) (k : G E K kc ks Wd lv2 pc st) : G E K kc ks Wd lv pc st := by
  obtain ⟨p, l, e, R, s, m, args, below, meth, c, Q, A, nL⟩ := E
  exact fun H locs ls hP hD hS hl => k H locs ls hP hD hS (lv_wk hl h)
theorem g_lvs {E : EnvT} {K : KT} {kc ks : Nat} {Wd : va_W} {lv lv2 : LV} {pc : Nat} {st : List Value} (is : List Nat) (h : lv_pick lv is = lv2) (k : G E K kc ks Wd lv2 pc st) : G E K kc ks Wd lv pc st := by
  obtain ⟨p, l, e, R, s, m, args, below, meth, c, Q, A, nL⟩ := E
  exact fun H locs ls hP hD hS hl => k H locs ls hP hD hS (lv_sub hl is h)
def FL (nest : Bool) (own : String) (index ci k : Nat) : Prop := ∃ (Cn : String) (T : u_T) (N : Nat), vwCl[ci]? = some (Cn, T, N) ∧ k < N ∧ (bif nest then Cond.fieldLinkNest own index (T k).1 (T k).2.1 (T k).2.2.1 RX1 ∈ lw_N else Cond.fieldLink own index (T k).1 (T k).2.1 (T k).2.2.1 ∈ lw_G) ∧ (∀ w ∈ u_ws Cn T N, w ∈ lw_G)
def FP (own : String) (index ci k : Nat) (ty : FieldType) : Prop := ∃ (Cn : String) (T : u_T) (N : Nat), vwCl[ci]? = some (Cn, T, N) ∧ k < N ∧ Cond.fieldLink own index (T k).1 (T k).2.1 (T k).2.2.1 ∈ lw_G ∧ (∀ w ∈ u_ws Cn T N, w ∈ lw_G) ∧ (∃ ty0 : Nat → FieldType, ∀ k, k < N → parseFieldDescriptor (T k).2.2.1 = some (ty0 k)) ∧ (∀ a, a < N → ∀ b, b < N → a ≠ b → (T a).2.1 ≠ (T b).2.1) ∧ (T k).2.2.2 = false ∧ parseFieldDescriptor (T k).2.2.1 = some ty
theorem g_get {E : EnvT} {K : KT} {cc : ByteArray} {own : String} {nL : Nat} {R : Room} {kc ks : Nat} {Wd : va_W} {lv : List (Nat × Value)} {pc : Nat} {st : List Value} {index ci j a : Nat} {fs : List Value} {v : Value} (C : Ok E K cc own nL R) (d : decode cc pc = .ok (.getfield index, 3)) (f : FL false own index ci j) (q0 : Nat) (he : Wd[q0]? = some (oB a ci fs)) (hv : fs[j]? = some v) (k : G E K kc ks Wd lv (pc + 3) (v :: st)) : G E K kc ks Wd lv pc (.ref a :: st) := by
  obtain ⟨p, l, e, R1, s, m, args, below, meth, c, Q, A, nL1⟩ := E
  obtain ⟨hx, hb, hml, hown, hts, hN, hK, hA, rfl, rfl⟩ := C
  intro H locs ls hP hD hS hl
  obtain ⟨Cn, T, N, h1, h2, h3, h4⟩ := f
  exact va_get hx hb hts h4 hown hK hP q0 he h1 j h2 (hts _ h3) (fun _ h => h) hv d (k H locs ls hP hD hS hl)
theorem g_getN {E : EnvT} {K : KT} {cc : ByteArray} {own : String} {nL : Nat} {R : Room} {kc ks : Nat} {Wd : va_W} {lv : List (Nat × Value)} {pc : Nat} {st : List Value} {index ci j a : Nat} {fs : List Value} {v : Value} (C : Ok E K cc own nL R) (d : decode cc pc = .ok (.getfield index, 3)) (f : FL true own index ci j) (q0 : Nat) (he : Wd[q0]? = some (oB a ci fs)) (hv : fs[j]? = some v) (k : G E K kc ks Wd lv (pc + 3) (v :: st)) : G E K kc ks Wd lv pc (.ref a :: st) := by
  obtain ⟨p, l, e, R1, s, m, args, below, meth, c, Q, A, nL1⟩ := E
  obtain ⟨hx, hb, hml, hown, hts, hN, hK, hA, rfl, rfl⟩ := C
  intro H locs ls hP hD hS hl
  obtain ⟨Cn, T, N, h1, h2, h3, h4⟩ := f
  exact va_getN (host := RX1) hx hb hts h4 hown hK hP q0 he h1 j h2 (va_Nw.use rfl (hN _ h3)) (fun _ h => h) hv d (k H locs ls hP hD hS hl)
theorem g_put {E : EnvT} {K : KT} {cc : ByteArray} {own : String} {nL : Nat} {R : Room} {kc ks : Nat} {Wd : va_W} {lv : List (Nat × Value)} {pc : Nat} {st : List Value} {index ci j a : Nat} {ty : FieldType} {fs : List Value} {v : Value} {Wd2 : va_W} (C : Ok E K cc own nL R) (d : decode cc pc = .ok (.putfield index, 3)) (f : FP own index ci j ty) (q0 : Nat) (he : Wd[q0]? = some (oB a ci fs)) (hn : narrow ty v = v) (hfit : fits ty v = true) (hl2 : j < fs.length) (hw : Wd.set q0 (oB a ci (fs.set j v)) = Wd2) (k : G E K kc ks Wd2 lv (pc + 3) st) : G E K kc ks Wd lv pc (v :: .ref a :: st) := by
  obtain ⟨p, l, e, R1, s, m, args, below, meth, c, Q, A, nL1⟩ := E
  obtain ⟨hx, hb, hml, hown, hts, hN, hK, hA, rfl, rfl⟩ := C
  intro H locs ls hP hD hS hl
  obtain ⟨Cn, T, N, h1, h2, h3, h4, ⟨ty0, h5⟩, h6, h7, h8⟩ := f
  subst hw
  exact va_put hx hb hts h4 ty0 h5 h6 hown hK hP hD hS q0 he h1 j h2 (hts _ h3) (fun _ h => h) h7 h8 hn hfit hl2 d (fun H1 locs1 hP1 hD1 hS1 => k H1 locs1 ls hP1 hD1 hS1 hl)
theorem g_iald {E : EnvT} {K : KT} {cc : ByteArray} {own : String} {nL : Nat} {R : Room} {kc ks : Nat} {Wd : va_W} {lv : List (Nat × Value)} {pc : Nat} {st : List Value} {a n : Nat} {f : Nat → Int32} {i : Int32} (C : Ok E K cc own nL R) (d : decode cc pc = .ok (.iaload, 1)) (q0 : Nat) (he : Wd[q0]? = some (aI K a n f)) (hin : vp_in i n) (k : G E K kc ks Wd lv (pc + 1) (.int (f i.toNatClampNeg) :: st)) : G E K kc ks Wd lv pc (.int i :: .ref a :: st) := by
  obtain ⟨p, l, e, R1, s, m, args, below, meth, c, Q, A, nL1⟩ := E
  obtain ⟨hx, hb, hml, hown, hts, hN, hK, hA, rfl, rfl⟩ := C
  intro H locs ls hP hD hS hl
  exact va_iald hx hb hK hP q0 0 he rfl hin d (k H locs ls hP hD hS hl)
theorem g_lald {E : EnvT} {K : KT} {cc : ByteArray} {own : String} {nL : Nat} {R : Room} {kc ks : Nat} {Wd : va_W} {lv : List (Nat × Value)} {pc : Nat} {st : List Value} {a n : Nat} {f : Nat → Int64} {i : Int32} (C : Ok E K cc own nL R) (d : decode cc pc = .ok (.laload, 1)) (q0 : Nat) (he : Wd[q0]? = some (aJ K a n f)) (hin : vp_in i n) (k : G E K kc ks Wd lv (pc + 1) (.long (f i.toNatClampNeg) :: st)) : G E K kc ks Wd lv pc (.int i :: .ref a :: st) := by
  obtain ⟨p, l, e, R1, s, m, args, below, meth, c, Q, A, nL1⟩ := E
  obtain ⟨hx, hb, hml, hown, hts, hN, hK, hA, rfl, rfl⟩ := C
  intro H locs ls hP hD hS hl
  exact va_lald hx hb hK hP q0 1 he rfl hin d (k H locs ls hP hD hS hl)
theorem g_aald {E : EnvT} {K : KT} {cc : ByteArray} {own : String} {nL : Nat} {R : Room} {kc ks : Nat} {Wd : va_W} {lv : List (Nat × Value)} {pc : Nat} {st : List Value} {a n b : Nat} {f : Nat → Option Nat} {i : Int32} (C : Ok E K cc own nL R) (d : decode cc pc = .ok (.aaload, 1)) (q0 : Nat) (he : Wd[q0]? = some (aO K a n f)) (hin : vp_in i n) (hb2 : f i.toNatClampNeg = some b) (k : G E K kc ks Wd lv (pc + 1) (.ref b :: st)) : G E K kc ks Wd lv pc (.int i :: .ref a :: st) := by
  obtain ⟨p, l, e, R1, s, m, args, below, meth, c, Q, A, nL1⟩ := E
  obtain ⟨hx, hb, hml, hown, hts, hN, hK, hA, rfl, rfl⟩ := C
  intro H locs ls hP hD hS hl
  exact va_aldq hx hb hK hP q0 2 he rfl hin d (by rw [hb2]; exact k H locs ls hP hD hS hl)
theorem g_iast {E : EnvT} {K : KT} {cc : ByteArray} {own : String} {nL : Nat} {R : Room} {kc ks : Nat} {Wd : va_W} {lv : List (Nat × Value)} {pc : Nat} {st : List Value} {a n : Nat} {f : Nat → Int32} {i : Int32} {x : Int32} {Wd2 : va_W} (C : Ok E K cc own nL R) (d : decode cc pc = .ok (.iastore, 1)) (q0 : Nat) (he : Wd[q0]? = some (aI K a n f)) (hin : vp_in i n) (hw : Wd.set q0 (aI K a n (upd f i.toNatClampNeg x)) = Wd2) (k : G E K kc ks Wd2 lv (pc + 1) st) : G E K kc ks Wd lv pc (.int x :: .int i :: .ref a :: st) := by
  obtain ⟨p, l, e, R1, s, m, args, below, meth, c, Q, A, nL1⟩ := E
  obtain ⟨hx, hb, hml, hown, hts, hN, hK, hA, rfl, rfl⟩ := C
  intro H locs ls hP hD hS hl
  subst hw
  exact va_iast hx hb hK hP hD hS q0 0 he rfl hin d (fun H1 locs1 hP1 hD1 hS1 => k H1 locs1 ls hP1 hD1 hS1 hl)
theorem g_last {E : EnvT} {K : KT} {cc : ByteArray} {own : String} {nL : Nat} {R : Room} {kc ks : Nat} {Wd : va_W} {lv : List (Nat × Value)} {pc : Nat} {st : List Value} {a n : Nat} {f : Nat → Int64} {i : Int32} {x : Int64} {Wd2 : va_W} (C : Ok E K cc own nL R) (d : decode cc pc = .ok (.lastore, 1)) (q0 : Nat) (he : Wd[q0]? = some (aJ K a n f)) (hin : vp_in i n) (hw : Wd.set q0 (aJ K a n (vp_updL f i.toNatClampNeg x)) = Wd2) (k : G E K kc ks Wd2 lv (pc + 1) st) : G E K kc ks Wd lv pc (.long x :: .int i :: .ref a :: st) := by
  obtain ⟨p, l, e, R1, s, m, args, below, meth, c, Q, A, nL1⟩ := E
  obtain ⟨hx, hb, hml, hown, hts, hN, hK, hA, rfl, rfl⟩ := C
  intro H locs ls hP hD hS hl
  subst hw
  exact va_last hx hb hK hP hD hS q0 1 he rfl hin d (fun H1 locs1 hP1 hD1 hS1 => k H1 locs1 ls hP1 hD1 hS1 hl)
theorem g_mmax {E : EnvT} {K : KT} {cc : ByteArray} {own : String} {nL : Nat} {R : Room} {kc ks : Nat} {Wd : va_W} {lv : List (Nat × Value)} {pc : Nat} {st : List Value} {index : Nat} {x y : Int32} (C : Ok E K cc own nL R) (d : decode cc pc = .ok (.invokestatic index, 3)) (h1 : Cond.methodLink own index Lib.Math.max.name ∈ lw_G) (h2 : Cond.static Lib.Math.max.name ∈ lw_G) (h3 : Cond.initialized "java/lang/Math" ∈ lw_G) (h4 : Cond.code Lib.Math.max.name Lib.Math.max.code 2 (some .int) ∈ lw_G) (hf : 1 ≤ R.frames) (hlo : (st.map fun v => v.category).sum + 13 ≤ R.locals) (hc : kc ≤ R.cells) (hs : ks ≤ R.slots) (k : G E K kc ks Wd lv (pc + 3) (.int (if x < y then y else x) :: st)) : G E K kc ks Wd lv pc (.int y :: .int x :: st) := by
  obtain ⟨p, l, e, R1, s, m, args, below, meth, c, Q, A, nL1⟩ := E
  obtain ⟨hx, hb, hml, hown, hts, hN, hK, hA, rfl, rfl⟩ := C
  intro H locs ls hP hD hS hl
  exact va_mmax hx hb (hml.trans hl.1.symm) hown (hts _ h1) (hts _ h2) (hts _ h3) (hts _ h4) hf hlo hc hs d (k H locs ls hP hD hS hl)
theorem g_mmaxL {E : EnvT} {K : KT} {cc : ByteArray} {own : String} {nL : Nat} {R : Room} {kc ks : Nat} {Wd : va_W} {lv : List (Nat × Value)} {pc : Nat} {st : List Value} {index : Nat} {x y : Int64} (C : Ok E K cc own nL R) (d : decode cc pc = .ok (.invokestatic index, 3)) (h1 : Cond.methodLink own index Lib.MathLoose.max_long.x ∈ lw_G) (h2 : Cond.static Lib.MathLoose.max_long.x ∈ lw_G) (h3 : Cond.initialized "java/lang/Math" ∈ lw_G) (h4 : Cond.code Lib.MathLoose.max_long.x Lib.MathLoose.max_long.code 4 (some .long) ∈ lw_G) (hf : 1 ≤ R.frames) (hlo : (st.map fun v => v.category).sum + 15 ≤ R.locals) (hc : kc ≤ R.cells) (hs : ks ≤ R.slots) (k : G E K kc ks Wd lv (pc + 3) (.long (if y < x then x else y) :: st)) : G E K kc ks Wd lv pc (.long y :: .long x :: st) := by
  obtain ⟨p, l, e, R1, s, m, args, below, meth, c, Q, A, nL1⟩ := E
  obtain ⟨hx, hb, hml, hown, hts, hN, hK, hA, rfl, rfl⟩ := C
  intro H locs ls hP hD hS hl
  exact va_mmax_long hx hb (hml.trans hl.1.symm) hown (hts _ h1) (hts _ h2) (hts _ h3) (hts _ h4) hf hlo hc hs d (k H locs ls hP hD hS hl)
theorem g_mminL {E : EnvT} {K : KT} {cc : ByteArray} {own : String} {nL : Nat} {R : Room} {kc ks : Nat} {Wd : va_W} {lv : List (Nat × Value)} {pc : Nat} {st : List Value} {index : Nat} {x y : Int64} (C : Ok E K cc own nL R) (d : decode cc pc = .ok (.invokestatic index, 3)) (h1 : Cond.methodLink own index Lib.MathLoose.min_long.x ∈ lw_G) (h2 : Cond.static Lib.MathLoose.min_long.x ∈ lw_G) (h3 : Cond.initialized "java/lang/Math" ∈ lw_G) (h4 : Cond.code Lib.MathLoose.min_long.x Lib.MathLoose.min_long.code 4 (some .long) ∈ lw_G) (hf : 1 ≤ R.frames) (hlo : (st.map fun v => v.category).sum + 15 ≤ R.locals) (hc : kc ≤ R.cells) (hs : ks ≤ R.slots) (k : G E K kc ks Wd lv (pc + 3) (.long (if y < x then y else x) :: st)) : G E K kc ks Wd lv pc (.long y :: .long x :: st) := by
  obtain ⟨p, l, e, R1, s, m, args, below, meth, c, Q, A, nL1⟩ := E
  obtain ⟨hx, hb, hml, hown, hts, hN, hK, hA, rfl, rfl⟩ := C
  intro H locs ls hP hD hS hl
  exact va_mmin_long hx hb (hml.trans hl.1.symm) hown (hts _ h1) (hts _ h2) (hts _ h3) (hts _ h4) hf hlo hc hs d (k H locs ls hP hD hS hl)
theorem g_mabsL {E : EnvT} {K : KT} {cc : ByteArray} {own : String} {nL : Nat} {R : Room} {kc ks : Nat} {Wd : va_W} {lv : List (Nat × Value)} {pc : Nat} {st : List Value} {index : Nat} {x : Int64} (C : Ok E K cc own nL R) (d : decode cc pc = .ok (.invokestatic index, 3)) (h1 : Cond.methodLink own index Lib.MathLoose.abs_long.x ∈ lw_G) (h2 : Cond.static Lib.MathLoose.abs_long.x ∈ lw_G) (h3 : Cond.initialized "java/lang/Math" ∈ lw_G) (h4 : Cond.code Lib.MathLoose.abs_long.x Lib.MathLoose.abs_long.code 2 (some .long) ∈ lw_G) (hf : 1 ≤ R.frames) (hlo : (st.map fun v => v.category).sum + 13 ≤ R.locals) (hc : kc ≤ R.cells) (hs : ks ≤ R.slots) (k : G E K kc ks Wd lv (pc + 3) (.long (if 0 < x then x else -x) :: st)) : G E K kc ks Wd lv pc (.long x :: st) := by
  obtain ⟨p, l, e, R1, s, m, args, below, meth, c, Q, A, nL1⟩ := E
  obtain ⟨hx, hb, hml, hown, hts, hN, hK, hA, rfl, rfl⟩ := C
  intro H locs ls hP hD hS hl
  exact va_mabs_long hx hb (hml.trans hl.1.symm) hown (hts _ h1) (hts _ h2) (hts _ h3) (hts _ h4) hf hlo hc hs d (k H locs ls hP hD hS hl)
/-! contracts: a method's answer and its world behind it -/
def ConP (K : KT) (Wd : va_W) (av : List Value) (sz : Nat) : Array Value → State → Prop := va_Pc av (fun U => U.heap.size = sz ∧ va_P K.1 vwCl Wd U.heap ∧ NW U ∧ va_K K.1 vwCl (tysK K) U ∧ va_D (fun _ => True) Wd)
def ConQ (K : KT) (Wd : va_W) {S : Type} (W2 : S → va_W) (rv : Option Value) (sz : Nat) : Array Value → State → Outcome → State → Prop := fun _ st oc t => (oc = .returned rv ∧ ∃ u : S, va_P K.1 vwCl (W2 u) t.heap ∧ va_D (va_A Wd sz) (W2 u)) ∧ va_F (va_A Wd sz) st t
abbrev rmF (fr lo : Nat) : Room := { frames := fr, cells := 0, slots := 0, locals := lo }
def Con (l : Launch) (y : MethodName) (cc : ByteArray) (maxL : Nat) (ret : Option FieldType) (fr lo : Nat) (K : KT) (Wd : va_W) {S : Type} (W2 : S → va_W) (av : List Value) (rv : Option Value) : Prop := ∀ sz : Nat, Met l y (Cond.code y cc maxL ret :: lw_G) (rmF fr lo) (ConP K Wd av sz) (ConQ K Wd W2 rv sz) 0 0 (va_A Wd sz)
theorem conP_blind (K : KT) (Wd : va_W) (av : List Value) (sz : Nat) : FrameBlind (ConP K Wd av sz) := fun a U g mk q => by
  obtain ⟨q0, q1, qP, qN, qK, qD⟩ := q
  exact ⟨q0, q1, qP, NW.same (u := U) rfl qN, va_K.moved (u := U) (U := U.calling g mk a) (Vm.Alike.refl U.vm) qK, qD⟩
def RetI (E : EnvT) (K : KT) (cc : ByteArray) {S : Type} (W2 : S → va_W) (r : Int32) : Prop := ∀ (pc : Nat) (lv : LV) (x : Int32) (Wx : va_W) (u : S), decode cc pc = .ok (.ireturn, 1) → x = r → Wx = W2 u → G E K 0 0 Wx lv pc [.int x]
def RetL (E : EnvT) (K : KT) (cc : ByteArray) {S : Type} (W2 : S → va_W) (r : Int64) : Prop := ∀ (pc : Nat) (lv : LV) (x : Int64) (Wx : va_W) (u : S), decode cc pc = .ok (.lreturn, 1) → x = r → Wx = W2 u → G E K 0 0 Wx lv pc [.long x]
def RetV (E : EnvT) (K : KT) (cc : ByteArray) {S : Type} (W2 : S → va_W) : Prop := ∀ (pc : Nat) (lv : LV) (Wx : va_W) (u : S), decode cc pc = .ok (.return_, 1) → Wx = W2 u → G E K 0 0 Wx lv pc []
theorem conI {y : MethodName} {cc : ByteArray} {maxL : Nat} {fr lo : Nat} {K : KT} {Wd : va_W} {S : Type} {W2 : S → va_W} {av : List Value} {r : Int32} (hy : plainName y.cls = true) (hlen : (lg_sl av).length ≤ maxL) (body : ∀ E : EnvT, Ok E K cc y.cls maxL (rmF fr lo) → RetI E K cc W2 r → G E K 0 0 Wd (lv_args 0 av) 0 []) : ∀ l : Launch, Con l y cc maxL (some .int) fr lo K Wd W2 av (some (.int r)) := by
  intro l sz
  refine Met.ofW (cc := cc) (maxL := maxL) (ret := (some .int)) hy rfl ?_
  intro p e s m args below meth c s₁ B hml hv
  obtain ⟨rfl, hsz, hP, hN, hK, hD0⟩ := hv
  have hts := atoms_spec (ws := Cond.code y cc maxL (some .int) :: lw_G) B.pre
  have hown : s.vm.findClass y.cls = some m.cls := findClass_of_methodNamed B.named
  have hlocks := B.notSynchronized
  have hx := B.exec
  have hb := B.bytes
  have hr := B.returns
  subst hsz
  have hl := lv_entry av (n := maxL) hlen
  rw [lg_entry_eq]
  refine body (p, l, e, rmF fr lo, s, m, av.toArray, below, meth, c, _, va_A Wd s.heap.size, maxL) ⟨hx, hb, hml, hown, fun w h => hts w (List.mem_cons_of_mem _ h), hN, hK, fun q h => Or.inr h, rfl, rfl⟩ ?_ s.heap [] _ hP hD0.self va_S.rf hl
  intro pc lv x Wx u d hx2 hW H locs ls hP2 hD2 hS2 hl2
  subst hx2 hW
  exact W.iret hx hb hr (fun t ht hW => ⟨⟨rfl, u, by rw [ht]; exact hP2, hD2⟩, hS2.F ht⟩) hS2.2.2 d
theorem conZ {y : MethodName} {cc : ByteArray} {maxL : Nat} {fr lo : Nat} {K : KT} {Wd : va_W} {S : Type} {W2 : S → va_W} {av : List Value} {b : Bool} (hy : plainName y.cls = true) (hlen : (lg_sl av).length ≤ maxL) (body : ∀ E : EnvT, Ok E K cc y.cls maxL (rmF fr lo) → RetI E K cc W2 (bz b) → G E K 0 0 Wd (lv_args 0 av) 0 []) : ∀ l : Launch, Con l y cc maxL (some .boolean) fr lo K Wd W2 av (some (.int (bz b))) := by
  intro l sz
  refine Met.ofW (cc := cc) (maxL := maxL) (ret := (some .boolean)) hy rfl ?_
  intro p e s m args below meth c s₁ B hml hv
  obtain ⟨rfl, hsz, hP, hN, hK, hD0⟩ := hv
  have hts := atoms_spec (ws := Cond.code y cc maxL (some .boolean) :: lw_G) B.pre
  have hown : s.vm.findClass y.cls = some m.cls := findClass_of_methodNamed B.named
  have hlocks := B.notSynchronized
  have hx := B.exec
  have hb := B.bytes
  have hr := B.returns
  subst hsz
  have hl := lv_entry av (n := maxL) hlen
  rw [lg_entry_eq]
  refine body (p, l, e, rmF fr lo, s, m, av.toArray, below, meth, c, _, va_A Wd s.heap.size, maxL) ⟨hx, hb, hml, hown, fun w h => hts w (List.mem_cons_of_mem _ h), hN, hK, fun q h => Or.inr h, rfl, rfl⟩ ?_ s.heap [] _ hP hD0.self va_S.rf hl
  intro pc lv x Wx u d hx2 hW H locs ls hP2 hD2 hS2 hl2
  subst hx2 hW
  exact W.zret hx hb hr (by cases b <;> rfl) (fun t ht hW => ⟨⟨rfl, u, by rw [ht]; exact hP2, hD2⟩, hS2.F ht⟩) hS2.2.2 d
theorem conL {y : MethodName} {cc : ByteArray} {maxL : Nat} {fr lo : Nat} {K : KT} {Wd : va_W} {S : Type} {W2 : S → va_W} {av : List Value} {r : Int64} (hy : plainName y.cls = true) (hlen : (lg_sl av).length ≤ maxL) (body : ∀ E : EnvT, Ok E K cc y.cls maxL (rmF fr lo) → RetL E K cc W2 r → G E K 0 0 Wd (lv_args 0 av) 0 []) : ∀ l : Launch, Con l y cc maxL (some .long) fr lo K Wd W2 av (some (.long r)) := by
  intro l sz
  refine Met.ofW (cc := cc) (maxL := maxL) (ret := (some .long)) hy rfl ?_
  intro p e s m args below meth c s₁ B hml hv
  obtain ⟨rfl, hsz, hP, hN, hK, hD0⟩ := hv
  have hts := atoms_spec (ws := Cond.code y cc maxL (some .long) :: lw_G) B.pre
  have hown : s.vm.findClass y.cls = some m.cls := findClass_of_methodNamed B.named
  have hlocks := B.notSynchronized
  have hx := B.exec
  have hb := B.bytes
  have hr := B.returns
  subst hsz
  have hl := lv_entry av (n := maxL) hlen
  rw [lg_entry_eq]
  refine body (p, l, e, rmF fr lo, s, m, av.toArray, below, meth, c, _, va_A Wd s.heap.size, maxL) ⟨hx, hb, hml, hown, fun w h => hts w (List.mem_cons_of_mem _ h), hN, hK, fun q h => Or.inr h, rfl, rfl⟩ ?_ s.heap [] _ hP hD0.self va_S.rf hl
  intro pc lv x Wx u d hx2 hW H locs ls hP2 hD2 hS2 hl2
  subst hx2 hW
  exact W.lret hx hb hr (fun t ht hW => ⟨⟨rfl, u, by rw [ht]; exact hP2, hD2⟩, hS2.F ht⟩) hS2.2.2 d
theorem conV {y : MethodName} {cc : ByteArray} {maxL : Nat} {fr lo : Nat} {K : KT} {Wd : va_W} {S : Type} {W2 : S → va_W} {av : List Value}  (hy : plainName y.cls = true) (hlen : (lg_sl av).length ≤ maxL) (body : ∀ E : EnvT, Ok E K cc y.cls maxL (rmF fr lo) → RetV E K cc W2 → G E K 0 0 Wd (lv_args 0 av) 0 []) : ∀ l : Launch, Con l y cc maxL none fr lo K Wd W2 av none := by
  intro l sz
  refine Met.ofW (cc := cc) (maxL := maxL) (ret := none) hy rfl ?_
  intro p e s m args below meth c s₁ B hml hv
  obtain ⟨rfl, hsz, hP, hN, hK, hD0⟩ := hv
  have hts := atoms_spec (ws := Cond.code y cc maxL none :: lw_G) B.pre
  have hown : s.vm.findClass y.cls = some m.cls := findClass_of_methodNamed B.named
  have hlocks := B.notSynchronized
  have hx := B.exec
  have hb := B.bytes
  have hr := B.returns
  subst hsz
  have hl := lv_entry av (n := maxL) hlen
  rw [lg_entry_eq]
  refine body (p, l, e, rmF fr lo, s, m, av.toArray, below, meth, c, _, va_A Wd s.heap.size, maxL) ⟨hx, hb, hml, hown, fun w h => hts w (List.mem_cons_of_mem _ h), hN, hK, fun q h => Or.inr h, rfl, rfl⟩ ?_ s.heap [] _ hP hD0.self va_S.rf hl
  intro pc lv Wx u d hW H locs ls hP2 hD2 hS2 hl2
  subst hW
  exact W.vret hx hb hr (fun t ht hW => ⟨⟨rfl, u, by rw [ht]; exact hP2, hD2⟩, hS2.F ht⟩) hS2.2.2 d
theorem va_callG {p : Program} {l : Launch} {e : Env} {R : Room} {s : State} {m : MethodId} {args : Array Value} {below : List Frame} {meth : Method} {c : Code} {H : Heap} {locs : List Loc} {kc ks : Nat} {Q : State → Prop} {pc : Nat} {ls : Array Slot} {st0 rest : List Value} {K : KT} {Wd : va_W} {S : Type} {W2 : S → va_W} {rv : Option Value} {A0 : Nat → Prop} {a : Array Value}
    (hr : va_Run p l e R s m args below meth c H locs kc ks 0 0 (F0 m pc ls st0) rest (ConQ K Wd W2 rv H.size a) (va_A Wd H.size)) (hS : va_S A0 s.heap H locs) (hA : ∀ q, va_A Wd H.size q → A0 q)
    (kk : ∀ (u : S) (H1 : Heap) (locs1 : List Loc), va_P K.1 vwCl (W2 u) H1 → va_D A0 (W2 u) → va_S A0 s.heap H1 locs1 → W p l e R s m args below meth c H1 locs1 kc ks Q (F0 m (pc + 3) ls (rv.toList ++ rest))) : W p l e R s m args below meth c H locs kc ks Q (F0 m pc ls st0) := by
  intro T hT X
  obtain ⟨v, st₀, t, T2, L, h0, X2, hL, e1, e2, ⟨⟨hv, u, hP1, hD1⟩, hz, hk⟩, st⟩ := hr T hT X
  cases hv
  rw [h0] at hz hk
  obtain ⟨t2, a1, b1⟩ := kk u T2.heap (locs ++ L) (by rw [e1]; exact hP1) (hD1.weaken (fun _ q _ h => hA q.1 h))
    ⟨Nat.le_trans hS.1 (by rw [e1]; exact hz), fun q h1 h2 => by rw [e1, hk q (Nat.lt_of_lt_of_le h1 hS.1) (fun z => h2 (hA q z))]; exact hS.2.1 q h1 h2, fun q hq => by
      rcases List.mem_append.mp hq with h | h
      · exact hS.2.2 q h
      · exact hA _ (hL q h)⟩ T2 rfl X2
  exact ⟨t2, st t2 a1, b1⟩
theorem va_freeW {A0 : Nat → Prop} {Wd : va_W} {H0 H : Heap} {locs : List Loc} (hD : va_D A0 Wd) (hS : va_S A0 H0 H locs) (hA : ∀ q, H0.size ≤ q → A0 q) : ∀ q, va_A Wd H.size q → A0 q := by
  intro q h
  rcases h with ⟨k, e, h⟩ | h
  · exact hD.2 k (q, e) h
  · exact hA q (Nat.le_trans hS.1 h)
theorem g_callS {E : EnvT} {K : KT} {cc : ByteArray} {own : String} {nL : Nat} {R : Room} {kc ks : Nat} {Wd : va_W} {lv : List (Nat × Value)} {pc : Nat} {st : List Value} {y : MethodName} {cc2 : ByteArray} {maxL : Nat} {ret : Option FieldType} {n fr lo : Nat} {av : List Value} {rv : Option Value} {rest : List Value} {index : Nat} {S : Type} {W2 : S → va_W} (C : Ok E K cc own nL R) (d : decode cc pc = .ok (.invokestatic index, 3)) (L : Ln own index y) (M : MfS y cc2 maxL ret n) (hM : ∀ l, Con l y cc2 maxL ret fr lo K Wd W2 av rv) (hn : av.length = n) (hst : st = av.reverse ++ rest) (hcat : (rest.map fun v => v.category).sum ≤ 8) (hR : fr + 1 ≤ R.frames ∧ 8 + (maxL + 11) + lo ≤ R.locals) (hc : kc ≤ R.cells ∧ ks ≤ R.slots) (k : ∀ u : S, G E K kc ks (W2 u) lv (pc + 3) (rv.toList ++ rest)) : G E K kc ks Wd lv pc st := by
  obtain ⟨p, l, e, R1, s, m, args, below, meth, c, Q, A, nL1⟩ := E
  obtain ⟨hx, hb, hml, hown, hts, hN, hK, hA, rfl, rfl⟩ := C
  intro H locs ls hP hD hS hl
  subst hst
  have hF := va_freeW hD hS hA
  obtain ⟨m1, m2, m3, m4⟩ := M
  exact va_callG (va_runS ⟨hx, hb, hml, hown, hts⟩ (hM l H.size) (va_cwS n hts (lw_gi (fun w hw => by
    rcases List.mem_append.mp hw with h | h
    · rcases List.mem_cons.mp h with h | h
      · rw [h]; exact L
      · rcases List.mem_cons.mp h with h | h
        · rw [h]; exact m3
        · rw [List.mem_singleton.mp h]; exact m2
    · rcases List.mem_cons.mp h with h | h
      · rw [h]; exact m1
      · exact h)) rfl rfl rfl m4 hR) ⟨conP_blind _ _ _ _, fun U hU hW => ⟨rfl, by rw [hU], by rw [hU]; exact hP, NW.warm hW hN, va_K.moved hW.alike hK, hD.weaken (fun _ _ _ _ => trivial)⟩⟩ rfl hn hl.1 rfl (lv_room hcat) d hc) hS hF (fun u H1 locs1 hP1 hD1 hS1 => k u H1 locs1 ls hP1 hD1 hS1 hl)
theorem g_callSN {E : EnvT} {K : KT} {cc : ByteArray} {own : String} {nL : Nat} {R : Room} {kc ks : Nat} {Wd : va_W} {lv : List (Nat × Value)} {pc : Nat} {st : List Value} {y : MethodName} {cc2 : ByteArray} {maxL : Nat} {ret : Option FieldType} {n fr lo : Nat} {av : List Value} {rv : Option Value} {rest : List Value} {index : Nat} {S : Type} {W2 : S → va_W} (C : Ok E K cc own nL R) (d : decode cc pc = .ok (.invokestatic index, 3)) (L : LnN own index y) (M : MfS y cc2 maxL ret n) (hM : ∀ l, Con l y cc2 maxL ret fr lo K Wd W2 av rv) (hn : av.length = n) (hst : st = av.reverse ++ rest) (hcat : (rest.map fun v => v.category).sum ≤ 8) (hR : fr + 1 ≤ R.frames ∧ 8 + (maxL + 11) + lo ≤ R.locals) (hc : kc ≤ R.cells ∧ ks ≤ R.slots) (k : ∀ u : S, G E K kc ks (W2 u) lv (pc + 3) (rv.toList ++ rest)) : G E K kc ks Wd lv pc st := by
  obtain ⟨p, l, e, R1, s, m, args, below, meth, c, Q, A, nL1⟩ := E
  obtain ⟨hx, hb, hml, hown, hts, hN, hK, hA, rfl, rfl⟩ := C
  intro H locs ls hP hD hS hl
  subst hst
  have hF := va_freeW hD hS hA
  obtain ⟨m1, m2, m3, m4⟩ := M
  exact va_callG (va_runSN ⟨hx, hb, hml, hown, hts⟩ (hM l H.size) ⟨va_cnB n hts (lw_gi (fun w hw => by
    rcases List.mem_cons.mp hw with h | h
    · rw [h]; exact m1
    · exact h)) rfl rfl rfl (hN _ L) (hts _ m2) m4 hR, hts _ m3, trivial⟩ ⟨conP_blind _ _ _ _, fun U hU hW => ⟨rfl, by rw [hU], by rw [hU]; exact hP, NW.warm hW hN, va_K.moved hW.alike hK, hD.weaken (fun _ _ _ _ => trivial)⟩⟩ rfl hn hl.1 rfl (lv_room hcat) d hc) hS hF (fun u H1 locs1 hP1 hD1 hS1 => k u H1 locs1 ls hP1 hD1 hS1 hl)
theorem g_callV {E : EnvT} {K : KT} {cc : ByteArray} {own : String} {nL : Nat} {R : Room} {kc ks : Nat} {Wd : va_W} {lv : List (Nat × Value)} {pc : Nat} {st : List Value} {y : MethodName} {cc2 : ByteArray} {maxL : Nat} {ret : Option FieldType} {n fr lo : Nat} {av : List Value} {rv : Option Value} {rest : List Value} {index : Nat} {S : Type} {W2 : S → va_W} {b ci : Nat} {T : u_T} {N0 : Nat} {fs : List Value} (C : Ok E K cc own nL R) (d : decode cc pc = .ok (.invokevirtual index, 3)) (L : Ln own index y) (M : MfV y cc2 maxL ret n) (q0 : Nat) (he : Wd[q0]? = some (oB b ci fs)) (hcl : vwCl[ci]? = some (y.cls, T, N0)) (hM : ∀ l, Con l y cc2 maxL ret fr lo K Wd W2 (.ref b :: av) rv) (hn : av.length = n) (hst : st = av.reverse ++ .ref b :: rest) (hcat : (rest.map fun v => v.category).sum ≤ 8) (hR : fr + 1 ≤ R.frames ∧ 8 + (maxL + 11) + lo ≤ R.locals) (hc : kc ≤ R.cells ∧ ks ≤ R.slots) (k : ∀ u : S, G E K kc ks (W2 u) lv (pc + 3) (rv.toList ++ rest)) : G E K kc ks Wd lv pc st := by
  obtain ⟨p, l, e, R1, s, m, args, below, meth, c, Q, A, nL1⟩ := E
  obtain ⟨hx, hb, hml, hown, hts, hN, hK, hA, rfl, rfl⟩ := C
  intro H locs ls hP hD hS hl
  subst hst
  have hF := va_freeW hD hS hA
  obtain ⟨m1, m2, m3, m4, m5⟩ := M
  exact va_callG (va_runV ⟨hx, hb, hml, hown, hts⟩ (hM l H.size) (cwV n hts (lw_gi (fun w hw => by
    rcases List.mem_append.mp hw with h | h
    · rcases List.mem_cons.mp h with h | h
      · rw [h]; exact L
      · rcases List.mem_cons.mp h with h | h
        · rw [h]; exact m3
        · rcases List.mem_cons.mp h with h | h
          · rw [h]; exact m4
          · rw [List.mem_singleton.mp h]; exact m2
    · rcases List.mem_cons.mp h with h | h
      · rw [h]; exact m1
      · exact h)) rfl rfl rfl ⟨rfl, m5⟩ hR) ⟨conP_blind _ _ _ _, va_recv hK hP hcl he, fun U hU hW => ⟨rfl, by rw [hU], by rw [hU]; exact hP, NW.warm hW hN, va_K.moved hW.alike hK, hD.weaken (fun _ _ _ _ => trivial)⟩⟩ rfl hn hl.1 rfl (lv_room hcat) d hc) hS hF (fun u H1 locs1 hP1 hD1 hS1 => k u H1 locs1 ls hP1 hD1 hS1 hl)
theorem g_callVN {E : EnvT} {K : KT} {cc : ByteArray} {own : String} {nL : Nat} {R : Room} {kc ks : Nat} {Wd : va_W} {lv : List (Nat × Value)} {pc : Nat} {st : List Value} {y : MethodName} {cc2 : ByteArray} {maxL : Nat} {ret : Option FieldType} {n fr lo : Nat} {av : List Value} {rv : Option Value} {rest : List Value} {index : Nat} {S : Type} {W2 : S → va_W} {b ci : Nat} {T : u_T} {N0 : Nat} {fs : List Value} (C : Ok E K cc own nL R) (d : decode cc pc = .ok (.invokevirtual index, 3)) (L : LnN own index y) (M : MfV y cc2 maxL ret n) (q0 : Nat) (he : Wd[q0]? = some (oB b ci fs)) (hcl : vwCl[ci]? = some (y.cls, T, N0)) (hM : ∀ l, Con l y cc2 maxL ret fr lo K Wd W2 (.ref b :: av) rv) (hn : av.length = n) (hst : st = av.reverse ++ .ref b :: rest) (hcat : (rest.map fun v => v.category).sum ≤ 8) (hR : fr + 1 ≤ R.frames ∧ 8 + (maxL + 11) + lo ≤ R.locals) (hc : kc ≤ R.cells ∧ ks ≤ R.slots) (k : ∀ u : S, G E K kc ks (W2 u) lv (pc + 3) (rv.toList ++ rest)) : G E K kc ks Wd lv pc st := by
  obtain ⟨p, l, e, R1, s, m, args, below, meth, c, Q, A, nL1⟩ := E
  obtain ⟨hx, hb, hml, hown, hts, hN, hK, hA, rfl, rfl⟩ := C
  intro H locs ls hP hD hS hl
  subst hst
  have hF := va_freeW hD hS hA
  obtain ⟨m1, m2, m3, m4, m5⟩ := M
  exact va_callG (va_runVN ⟨hx, hb, hml, hown, hts⟩ (hM l H.size) ⟨va_cnB n hts (lw_gi (fun w hw => by
    rcases List.mem_cons.mp hw with h | h
    · rw [h]; exact m1
    · exact h)) rfl rfl rfl (hN _ L) (hts _ m2) m5 hR, hts _ m3, hts _ m4⟩ ⟨conP_blind _ _ _ _, va_recv hK hP hcl he, fun U hU hW => ⟨rfl, by rw [hU], by rw [hU]; exact hP, NW.warm hW hN, va_K.moved hW.alike hK, hD.weaken (fun _ _ _ _ => trivial)⟩⟩ rfl hn hl.1 rfl (lv_room hcat) d hc) hS hF (fun u H1 locs1 hP1 hD1 hS1 => k u H1 locs1 ls hP1 hD1 hS1 hl)
end
section
set_option maxRecDepth 20000 in
theorem fl_X0_9 : FL false RX0 9 0 0 := ⟨RX0, TX0, 1, rfl, by decide, mw 52 (by rfl) rfl, fx_X0⟩
set_option maxRecDepth 20000 in
theorem fl_X1_122 : FL true RX1 122 0 0 := ⟨RX0, TX0, 1, rfl, by decide, mwN 53 (by rfl) rfl, fx_X0⟩
set_option maxRecDepth 20000 in
theorem fl_X1_11 : FL false RX1 11 1 0 := ⟨RX1, TX1, 8, rfl, by decide, mw 59 (by rfl) rfl, fx_X1⟩
set_option maxRecDepth 20000 in
theorem fl_X1_15 : FL false RX1 15 1 1 := ⟨RX1, TX1, 8, rfl, by decide, mw 60 (by rfl) rfl, fx_X1⟩
set_option maxRecDepth 20000 in
theorem fl_X1_18 : FL false RX1 18 1 2 := ⟨RX1, TX1, 8, rfl, by decide, mw 61 (by rfl) rfl, fx_X1⟩
set_option maxRecDepth 20000 in
theorem fl_X1_22 : FL false RX1 22 1 3 := ⟨RX1, TX1, 8, rfl, by decide, mw 62 (by rfl) rfl, fx_X1⟩
set_option maxRecDepth 20000 in
theorem fp_X1_22 : FP RX1 22 1 3 .int := ⟨RX1, TX1, 8, rfl, by decide, mw 62 (by rfl) rfl, fx_X1, ⟨tyX1, tyX1_ok⟩, nmX1, rfl, by decide +kernel⟩
set_option maxRecDepth 20000 in
theorem fl_X1_26 : FL false RX1 26 1 4 := ⟨RX1, TX1, 8, rfl, by decide, mw 63 (by rfl) rfl, fx_X1⟩
set_option maxRecDepth 20000 in
theorem fp_X1_26 : FP RX1 26 1 4 .int := ⟨RX1, TX1, 8, rfl, by decide, mw 63 (by rfl) rfl, fx_X1, ⟨tyX1, tyX1_ok⟩, nmX1, rfl, by decide +kernel⟩
set_option maxRecDepth 20000 in
theorem fl_X1_31 : FL false RX1 31 1 5 := ⟨RX1, TX1, 8, rfl, by decide, mw 64 (by rfl) rfl, fx_X1⟩
set_option maxRecDepth 20000 in
theorem fl_X1_36 : FL false RX1 36 1 6 := ⟨RX1, TX1, 8, rfl, by decide, mw 65 (by rfl) rfl, fx_X1⟩
set_option maxRecDepth 20000 in
theorem fl_X1_40 : FL false RX1 40 1 7 := ⟨RX1, TX1, 8, rfl, by decide, mw 66 (by rfl) rfl, fx_X1⟩
set_option maxRecDepth 20000 in
theorem fl_X2_7 : FL false RX2 7 2 0 := ⟨RX2, TX2, 10, rfl, by decide, mw 332 (by rfl) rfl, fx_X2⟩
set_option maxRecDepth 20000 in
theorem fl_X2_13 : FL false RX2 13 2 1 := ⟨RX2, TX2, 10, rfl, by decide, mw 333 (by rfl) rfl, fx_X2⟩
set_option maxRecDepth 20000 in
theorem fl_X2_16 : FL false RX2 16 2 2 := ⟨RX2, TX2, 10, rfl, by decide, mw 334 (by rfl) rfl, fx_X2⟩
set_option maxRecDepth 20000 in
theorem fp_X2_16 : FP RX2 16 2 2 .int := ⟨RX2, TX2, 10, rfl, by decide, mw 334 (by rfl) rfl, fx_X2, ⟨tyX2, tyX2_ok⟩, nmX2, rfl, by decide +kernel⟩
set_option maxRecDepth 20000 in
theorem fl_X2_20 : FL false RX2 20 2 3 := ⟨RX2, TX2, 10, rfl, by decide, mw 335 (by rfl) rfl, fx_X2⟩
set_option maxRecDepth 20000 in
theorem fp_X2_20 : FP RX2 20 2 3 .int := ⟨RX2, TX2, 10, rfl, by decide, mw 335 (by rfl) rfl, fx_X2, ⟨tyX2, tyX2_ok⟩, nmX2, rfl, by decide +kernel⟩
set_option maxRecDepth 20000 in
theorem fl_X2_23 : FL false RX2 23 2 4 := ⟨RX2, TX2, 10, rfl, by decide, mw 336 (by rfl) rfl, fx_X2⟩
set_option maxRecDepth 20000 in
theorem fl_X2_27 : FL false RX2 27 2 5 := ⟨RX2, TX2, 10, rfl, by decide, mw 337 (by rfl) rfl, fx_X2⟩
set_option maxRecDepth 20000 in
theorem fl_X2_44 : FL false RX2 44 2 6 := ⟨RX2, TX2, 10, rfl, by decide, mw 338 (by rfl) rfl, fx_X2⟩
set_option maxRecDepth 20000 in
theorem fp_X2_44 : FP RX2 44 2 6 .int := ⟨RX2, TX2, 10, rfl, by decide, mw 338 (by rfl) rfl, fx_X2, ⟨tyX2, tyX2_ok⟩, nmX2, rfl, by decide +kernel⟩
set_option maxRecDepth 20000 in
theorem fl_X2_47 : FL false RX2 47 2 7 := ⟨RX2, TX2, 10, rfl, by decide, mw 339 (by rfl) rfl, fx_X2⟩
set_option maxRecDepth 20000 in
theorem fp_X2_47 : FP RX2 47 2 7 .int := ⟨RX2, TX2, 10, rfl, by decide, mw 339 (by rfl) rfl, fx_X2, ⟨tyX2, tyX2_ok⟩, nmX2, rfl, by decide +kernel⟩
set_option maxRecDepth 20000 in
theorem fl_X2_96 : FL false RX2 96 2 8 := ⟨RX2, TX2, 10, rfl, by decide, mw 340 (by rfl) rfl, fx_X2⟩
set_option maxRecDepth 20000 in
theorem fp_X2_96 : FP RX2 96 2 8 .long := ⟨RX2, TX2, 10, rfl, by decide, mw 340 (by rfl) rfl, fx_X2, ⟨tyX2, tyX2_ok⟩, nmX2, rfl, by decide +kernel⟩
set_option maxRecDepth 20000 in
theorem fl_X2_100 : FL false RX2 100 2 9 := ⟨RX2, TX2, 10, rfl, by decide, mw 341 (by rfl) rfl, fx_X2⟩
set_option maxRecDepth 20000 in
theorem fp_X2_100 : FP RX2 100 2 9 .int := ⟨RX2, TX2, 10, rfl, by decide, mw 341 (by rfl) rfl, fx_X2, ⟨tyX2, tyX2_ok⟩, nmX2, rfl, by decide +kernel⟩
end
section
/-! pure words for what the leaves answer -/
theorem nI_inc (n : Nat) : nI n + Int32.ofInt 1 = nI (n + 1) := (nI_succ n).symm
def ushrI (x y : Int32) : Int32 := (x.toUInt32 >>> (y.toUInt32 &&& Int32.toUInt32 31)).toInt32
def shlL (x : Int64) (y : Int32) : Int64 := x <<< (y.toInt64 &&& 63)
def shrL (x : Int64) (y : Int32) : Int64 := x >>> (y.toInt64 &&& 63)
def ushrL (x : Int64) (y : Int32) : Int64 := (x.toUInt64 >>> (y.toInt64.toUInt64 &&& Int64.toUInt64 63)).toInt64
def isReg (x : Int32) : Bool := !decide (x < 0) && !decide (12 ≤ x)
def isSm (x : Int32) : Bool := !decide (x < 0) && !decide (8 ≤ x)
def isLd (x : Int32) : Bool := !decide (x < 0) && !decide (20 < x)
def isEx (x : Int32) : Bool := !decide (x < -6) && !decide (6 < x)
def isFr (x y : Int32) : Bool := !decide (x < -1000000000) && !decide (1000000000 < x) && !decide (y < 0) && !decide (20 < y)
def areRg (x : Int32) : Bool := decide (ushrI x 12 = 0)
def tb (x y : Int32) : Bool := decide (ushrI x y &&& 1 = 1)
def lowB (x : Int32) : Int32 := (1 <<< (x &&& 31)) - 1
def sgnO (x : Int64) : Int32 := if x = 0 then 0 else if x < 0 then -1 else 1
def inL (x y z : Int64) : Bool := !decide (x < y) && !decide (z < x)
def cmpL (x y : Int64) : Int32 := if y ≤ x then bz (decide (y < x)) else -1
def sizM (x y : Int32) : Int32 := if y < x then 0 else (1 <<< ((y - x + 1) &&& 31)) - 1
def bcL1 (x : Int64) : Int64 := x - (ushrL x 1 &&& 6148914691236517205)
def bcL2 (x : Int64) : Int64 := (x &&& 3689348814741910323) + (ushrL x 2 &&& 3689348814741910323)
def bcL3 (x : Int64) : Int64 := (x + ushrL x 4) &&& 1085102592571150095
def bcL4 (x : Int64) : Int64 := x + ushrL x 8
def bcL5 (x : Int64) : Int64 := x + ushrL x 16
def bcL6 (x : Int64) : Int64 := x + ushrL x 32
def bcL (x : Int64) : Int32 := (bcL6 (bcL5 (bcL4 (bcL3 (bcL2 (bcL1 x)))))).toInt32 &&& 127
def bcI1 (x : Int32) : Int32 := x - (ushrI x 1 &&& 1431655765)
def bcI2 (x : Int32) : Int32 := (x &&& 858993459) + (ushrI x 2 &&& 858993459)
def bcI3 (x : Int32) : Int32 := (x + ushrI x 4) &&& 252645135
def bcI4 (x : Int32) : Int32 := x + ushrI x 8
def bcI5 (x : Int32) : Int32 := x + ushrI x 16
def bcI (x : Int32) : Int32 := bcI5 (bcI4 (bcI3 (bcI2 (bcI1 x)))) &&& 63
def absL (x : Int64) : Int64 := if 0 < x then x else -x
def isP2 (x : Int64) : Bool := decide (bcL (absL x) = 1)
def halv (x : Int64) : Int32 := bcL ((x &&& -x) - 1)
def maxI (x y : Int32) : Int32 := if x < y then y else x
def lBel (x : Int64) (y : Int32) : Int32 := maxI 0 (y - halv x)
def lAbo (x : Int64) (y : Int32) : Int32 := (shrL x (y - lBel x y)).toInt32
def facO (x : Int64) (y : Int32) : Int64 := if 20 < lBel x y then -9223372036854775808 else if shrL x (y - lBel x y) < -1000000000 then -9223372036854775808 else if shrL x (y - lBel x y) ≤ 1000000000 then shlL (shrL x (y - lBel x y)) (20 - lBel x y) else -9223372036854775808
def facP (x y : Int64) : Int64 := facO ((lAbo x 20).toInt64 * (lAbo y 20).toInt64) (lBel x 20 + lBel y 20)
def facQ (x y : Int64) : Int64 := if 0 ≤ y then facO x (halv y) else facO (-x) (halv y)
theorem i64lt (a b : Int32) : a.toInt64 < b.toInt64 ↔ a < b := by
  rw [Int64.lt_iff_toInt_lt, Int32.lt_iff_toInt_lt, Int32.toInt_toInt64, Int32.toInt_toInt64]
theorem inL_gen (x lo hi : Int32) {a b : Int64} (ha : lo.toInt64 = a) (hb : hi.toInt64 = b) : inL x.toInt64 a b = (!decide (x < lo) && !decide (hi < x)) := by
  subst ha hb
  unfold inL
  rw [show decide (x.toInt64 < lo.toInt64) = decide (x < lo) from decide_eq_decide.mpr (i64lt _ _), show decide (hi.toInt64 < x.toInt64) = decide (hi < x) from decide_eq_decide.mpr (i64lt _ _)]
theorem lt_le12 (x : Int32) : decide ((11 : Int32) < x) = decide ((12 : Int32) ≤ x) := decide_eq_decide.mpr (by
  rw [Int32.lt_iff_toInt_lt, Int32.le_iff_toInt_le]
  have e1 : (11 : Int32).toInt = 11 := rfl
  have e2 : (12 : Int32).toInt = 12 := rfl
  omega)
theorem lt_le8 (x : Int32) : decide ((7 : Int32) < x) = decide ((8 : Int32) ≤ x) := decide_eq_decide.mpr (by
  rw [Int32.lt_iff_toInt_lt, Int32.le_iff_toInt_le]
  have e1 : (7 : Int32).toInt = 7 := rfl
  have e2 : (8 : Int32).toInt = 8 := rfl
  omega)
theorem inL_reg (x : Int32) : inL (Int32.toInt64 x) 0 11 = isReg x := by
  rw [inL_gen x 0 11 (a := 0) (b := 11) rfl rfl, lt_le12]; rfl
theorem inL_sm (x : Int32) : inL (Int32.toInt64 x) 0 7 = isSm x := by
  rw [inL_gen x 0 7 (a := 0) (b := 7) rfl rfl, lt_le8]; rfl
theorem g_dia_icmp_eq {E : EnvT} {K : KT} {cc : ByteArray} {own : String} {nL : Nat} {R : Room} {kc ks : Nat} {Wd : va_W} {lv : List (Nat × Value)} {pc : Nat} {st : List Value} {x y : Int32} {off off2 : Int} {tgt : Nat} (C : Ok E K cc own nL R) (d : decode cc pc = .ok (.if_icmp .eq off, 3)) (d3 : decode cc (pc + 3) = .ok (.iconst 1, 1)) (d4 : decode cc (pc + 3 + 1) = .ok (.goto off2, 3)) (d5 : decode cc tgt = .ok (.iconst 0, 1)) (ht : (pc : Int) + off = (tgt : Int)) (ht2 : ((pc + 3 + 1 : Nat) : Int) + off2 = ((tgt + 1 : Nat) : Int)) (_hx : True) (k : G E K kc ks Wd lv (tgt + 1) (.int (bz (decide (¬ x = y))) :: st)) : G E K kc ks Wd lv pc (.int y :: .int x :: st) := by
  refine g_icmp_eq C d ht (fun q => ?_) (fun q => ?_)
  · refine g_iconst (v := 0) C d5 (by decide) ?_
    rw [show bz (decide (¬ x = y)) = 0 from bz_0.mpr (decide_eq_false (fun z => z q))] at k
    exact k
  · refine g_iconst (v := 1) C d3 (by decide) ?_
    refine g_goto C d4 ht2 ?_
    rw [show bz (decide (¬ x = y)) = 1 from congrArg bz (decide_eq_true (q))] at k
    exact k
theorem g_dia_lcmp_eq {E : EnvT} {K : KT} {cc : ByteArray} {own : String} {nL : Nat} {R : Room} {kc ks : Nat} {Wd : va_W} {lv : List (Nat × Value)} {pc : Nat} {st : List Value} {x y : Int64} {off off2 : Int} {tgt : Nat} (C : Ok E K cc own nL R) (d : decode cc pc = .ok (.lcmp, 1)) (d2 : decode cc (pc + 1) = .ok (.ifCond .eq off, 3)) (d3 : decode cc (pc + 1 + 3) = .ok (.iconst 1, 1)) (d4 : decode cc (pc + 1 + 3 + 1) = .ok (.goto off2, 3)) (d5 : decode cc tgt = .ok (.iconst 0, 1)) (ht : ((pc + 1 : Nat) : Int) + off = (tgt : Int)) (ht2 : ((pc + 1 + 3 + 1 : Nat) : Int) + off2 = ((tgt + 1 : Nat) : Int)) (_hx : True) (k : G E K kc ks Wd lv (tgt + 1) (.int (bz (decide (¬ x = y))) :: st)) : G E K kc ks Wd lv pc (.long y :: .long x :: st) := by
  refine g_lcmp_eq C d d2 ht (fun q => ?_) (fun q => ?_)
  · refine g_iconst (v := 0) C d5 (by decide) ?_
    rw [show bz (decide (¬ x = y)) = 0 from bz_0.mpr (decide_eq_false (fun z => z q))] at k
    exact k
  · refine g_iconst (v := 1) C d3 (by decide) ?_
    refine g_goto C d4 ht2 ?_
    rw [show bz (decide (¬ x = y)) = 1 from congrArg bz (decide_eq_true (q))] at k
    exact k
theorem g_dia_if_eq {E : EnvT} {K : KT} {cc : ByteArray} {own : String} {nL : Nat} {R : Room} {kc ks : Nat} {Wd : va_W} {lv : List (Nat × Value)} {pc : Nat} {st : List Value} {x : Int32} {off off2 : Int} {tgt : Nat} (C : Ok E K cc own nL R) (d : decode cc pc = .ok (.ifCond .eq off, 3)) (d3 : decode cc (pc + 3) = .ok (.iconst 1, 1)) (d4 : decode cc (pc + 3 + 1) = .ok (.goto off2, 3)) (d5 : decode cc tgt = .ok (.iconst 0, 1)) (ht : (pc : Int) + off = (tgt : Int)) (ht2 : ((pc + 3 + 1 : Nat) : Int) + off2 = ((tgt + 1 : Nat) : Int)) (_hx : True) (k : G E K kc ks Wd lv (tgt + 1) (.int (bz (decide (¬ x = 0))) :: st)) : G E K kc ks Wd lv pc (.int x :: st) := by
  refine g_if_eq C d ht (fun q => ?_) (fun q => ?_)
  · refine g_iconst (v := 0) C d5 (by decide) ?_
    rw [show bz (decide (¬ x = 0)) = 0 from bz_0.mpr (decide_eq_false (fun z => z q))] at k
    exact k
  · refine g_iconst (v := 1) C d3 (by decide) ?_
    refine g_goto C d4 ht2 ?_
    rw [show bz (decide (¬ x = 0)) = 1 from congrArg bz (decide_eq_true (q))] at k
    exact k
theorem g_dia_icmp_ne {E : EnvT} {K : KT} {cc : ByteArray} {own : String} {nL : Nat} {R : Room} {kc ks : Nat} {Wd : va_W} {lv : List (Nat × Value)} {pc : Nat} {st : List Value} {x y : Int32} {off off2 : Int} {tgt : Nat} (C : Ok E K cc own nL R) (d : decode cc pc = .ok (.if_icmp .ne off, 3)) (d3 : decode cc (pc + 3) = .ok (.iconst 1, 1)) (d4 : decode cc (pc + 3 + 1) = .ok (.goto off2, 3)) (d5 : decode cc tgt = .ok (.iconst 0, 1)) (ht : (pc : Int) + off = (tgt : Int)) (ht2 : ((pc + 3 + 1 : Nat) : Int) + off2 = ((tgt + 1 : Nat) : Int)) (_hx : True) (k : G E K kc ks Wd lv (tgt + 1) (.int (bz (decide (x = y))) :: st)) : G E K kc ks Wd lv pc (.int y :: .int x :: st) := by
  refine g_icmp_ne C d ht (fun q => ?_) (fun q => ?_)
  · refine g_iconst (v := 0) C d5 (by decide) ?_
    rw [show bz (decide (x = y)) = 0 from bz_0.mpr (decide_eq_false (q))] at k
    exact k
  · refine g_iconst (v := 1) C d3 (by decide) ?_
    refine g_goto C d4 ht2 ?_
    rw [show bz (decide (x = y)) = 1 from congrArg bz (decide_eq_true (q))] at k
    exact k
theorem g_dia_lcmp_ne {E : EnvT} {K : KT} {cc : ByteArray} {own : String} {nL : Nat} {R : Room} {kc ks : Nat} {Wd : va_W} {lv : List (Nat × Value)} {pc : Nat} {st : List Value} {x y : Int64} {off off2 : Int} {tgt : Nat} (C : Ok E K cc own nL R) (d : decode cc pc = .ok (.lcmp, 1)) (d2 : decode cc (pc + 1) = .ok (.ifCond .ne off, 3)) (d3 : decode cc (pc + 1 + 3) = .ok (.iconst 1, 1)) (d4 : decode cc (pc + 1 + 3 + 1) = .ok (.goto off2, 3)) (d5 : decode cc tgt = .ok (.iconst 0, 1)) (ht : ((pc + 1 : Nat) : Int) + off = (tgt : Int)) (ht2 : ((pc + 1 + 3 + 1 : Nat) : Int) + off2 = ((tgt + 1 : Nat) : Int)) (_hx : True) (k : G E K kc ks Wd lv (tgt + 1) (.int (bz (decide (x = y))) :: st)) : G E K kc ks Wd lv pc (.long y :: .long x :: st) := by
  refine g_lcmp_ne C d d2 ht (fun q => ?_) (fun q => ?_)
  · refine g_iconst (v := 0) C d5 (by decide) ?_
    rw [show bz (decide (x = y)) = 0 from bz_0.mpr (decide_eq_false (q))] at k
    exact k
  · refine g_iconst (v := 1) C d3 (by decide) ?_
    refine g_goto C d4 ht2 ?_
    rw [show bz (decide (x = y)) = 1 from congrArg bz (decide_eq_true (q))] at k
    exact k
theorem g_dia_if_ne {E : EnvT} {K : KT} {cc : ByteArray} {own : String} {nL : Nat} {R : Room} {kc ks : Nat} {Wd : va_W} {lv : List (Nat × Value)} {pc : Nat} {st : List Value} {x : Int32} {off off2 : Int} {tgt : Nat} (C : Ok E K cc own nL R) (d : decode cc pc = .ok (.ifCond .ne off, 3)) (d3 : decode cc (pc + 3) = .ok (.iconst 1, 1)) (d4 : decode cc (pc + 3 + 1) = .ok (.goto off2, 3)) (d5 : decode cc tgt = .ok (.iconst 0, 1)) (ht : (pc : Int) + off = (tgt : Int)) (ht2 : ((pc + 3 + 1 : Nat) : Int) + off2 = ((tgt + 1 : Nat) : Int)) (_hx : True) (k : G E K kc ks Wd lv (tgt + 1) (.int (bz (decide (x = 0))) :: st)) : G E K kc ks Wd lv pc (.int x :: st) := by
  refine g_if_ne C d ht (fun q => ?_) (fun q => ?_)
  · refine g_iconst (v := 0) C d5 (by decide) ?_
    rw [show bz (decide (x = 0)) = 0 from bz_0.mpr (decide_eq_false (q))] at k
    exact k
  · refine g_iconst (v := 1) C d3 (by decide) ?_
    refine g_goto C d4 ht2 ?_
    rw [show bz (decide (x = 0)) = 1 from congrArg bz (decide_eq_true (q))] at k
    exact k
theorem g_dia_icmp_lt {E : EnvT} {K : KT} {cc : ByteArray} {own : String} {nL : Nat} {R : Room} {kc ks : Nat} {Wd : va_W} {lv : List (Nat × Value)} {pc : Nat} {st : List Value} {x y : Int32} {off off2 : Int} {tgt : Nat} (C : Ok E K cc own nL R) (d : decode cc pc = .ok (.if_icmp .lt off, 3)) (d3 : decode cc (pc + 3) = .ok (.iconst 1, 1)) (d4 : decode cc (pc + 3 + 1) = .ok (.goto off2, 3)) (d5 : decode cc tgt = .ok (.iconst 0, 1)) (ht : (pc : Int) + off = (tgt : Int)) (ht2 : ((pc + 3 + 1 : Nat) : Int) + off2 = ((tgt + 1 : Nat) : Int)) (_hx : True) (k : G E K kc ks Wd lv (tgt + 1) (.int (bz (decide (y ≤ x))) :: st)) : G E K kc ks Wd lv pc (.int y :: .int x :: st) := by
  refine g_icmp_lt C d ht (fun q => ?_) (fun q => ?_)
  · refine g_iconst (v := 0) C d5 (by decide) ?_
    rw [show bz (decide (y ≤ x)) = 0 from bz_0.mpr (decide_eq_false (Int32.not_le.mpr q))] at k
    exact k
  · refine g_iconst (v := 1) C d3 (by decide) ?_
    refine g_goto C d4 ht2 ?_
    rw [show bz (decide (y ≤ x)) = 1 from congrArg bz (decide_eq_true (Int32.not_lt.mp q))] at k
    exact k
theorem g_dia_lcmp_lt {E : EnvT} {K : KT} {cc : ByteArray} {own : String} {nL : Nat} {R : Room} {kc ks : Nat} {Wd : va_W} {lv : List (Nat × Value)} {pc : Nat} {st : List Value} {x y : Int64} {off off2 : Int} {tgt : Nat} (C : Ok E K cc own nL R) (d : decode cc pc = .ok (.lcmp, 1)) (d2 : decode cc (pc + 1) = .ok (.ifCond .lt off, 3)) (d3 : decode cc (pc + 1 + 3) = .ok (.iconst 1, 1)) (d4 : decode cc (pc + 1 + 3 + 1) = .ok (.goto off2, 3)) (d5 : decode cc tgt = .ok (.iconst 0, 1)) (ht : ((pc + 1 : Nat) : Int) + off = (tgt : Int)) (ht2 : ((pc + 1 + 3 + 1 : Nat) : Int) + off2 = ((tgt + 1 : Nat) : Int)) (_hx : True) (k : G E K kc ks Wd lv (tgt + 1) (.int (bz (decide (y ≤ x))) :: st)) : G E K kc ks Wd lv pc (.long y :: .long x :: st) := by
  refine g_lcmp_lt C d d2 ht (fun q => ?_) (fun q => ?_)
  · refine g_iconst (v := 0) C d5 (by decide) ?_
    rw [show bz (decide (y ≤ x)) = 0 from bz_0.mpr (decide_eq_false (Int64.not_le.mpr q))] at k
    exact k
  · refine g_iconst (v := 1) C d3 (by decide) ?_
    refine g_goto C d4 ht2 ?_
    rw [show bz (decide (y ≤ x)) = 1 from congrArg bz (decide_eq_true (Int64.not_lt.mp q))] at k
    exact k
theorem g_dia_if_lt {E : EnvT} {K : KT} {cc : ByteArray} {own : String} {nL : Nat} {R : Room} {kc ks : Nat} {Wd : va_W} {lv : List (Nat × Value)} {pc : Nat} {st : List Value} {x : Int32} {off off2 : Int} {tgt : Nat} (C : Ok E K cc own nL R) (d : decode cc pc = .ok (.ifCond .lt off, 3)) (d3 : decode cc (pc + 3) = .ok (.iconst 1, 1)) (d4 : decode cc (pc + 3 + 1) = .ok (.goto off2, 3)) (d5 : decode cc tgt = .ok (.iconst 0, 1)) (ht : (pc : Int) + off = (tgt : Int)) (ht2 : ((pc + 3 + 1 : Nat) : Int) + off2 = ((tgt + 1 : Nat) : Int)) (_hx : True) (k : G E K kc ks Wd lv (tgt + 1) (.int (bz (decide (0 ≤ x))) :: st)) : G E K kc ks Wd lv pc (.int x :: st) := by
  refine g_if_lt C d ht (fun q => ?_) (fun q => ?_)
  · refine g_iconst (v := 0) C d5 (by decide) ?_
    rw [show bz (decide (0 ≤ x)) = 0 from bz_0.mpr (decide_eq_false (Int32.not_le.mpr q))] at k
    exact k
  · refine g_iconst (v := 1) C d3 (by decide) ?_
    refine g_goto C d4 ht2 ?_
    rw [show bz (decide (0 ≤ x)) = 1 from congrArg bz (decide_eq_true (Int32.not_lt.mp q))] at k
    exact k
theorem g_dia_icmp_ge {E : EnvT} {K : KT} {cc : ByteArray} {own : String} {nL : Nat} {R : Room} {kc ks : Nat} {Wd : va_W} {lv : List (Nat × Value)} {pc : Nat} {st : List Value} {x y : Int32} {off off2 : Int} {tgt : Nat} (C : Ok E K cc own nL R) (d : decode cc pc = .ok (.if_icmp .ge off, 3)) (d3 : decode cc (pc + 3) = .ok (.iconst 1, 1)) (d4 : decode cc (pc + 3 + 1) = .ok (.goto off2, 3)) (d5 : decode cc tgt = .ok (.iconst 0, 1)) (ht : (pc : Int) + off = (tgt : Int)) (ht2 : ((pc + 3 + 1 : Nat) : Int) + off2 = ((tgt + 1 : Nat) : Int)) (_hx : True) (k : G E K kc ks Wd lv (tgt + 1) (.int (bz (decide (x < y))) :: st)) : G E K kc ks Wd lv pc (.int y :: .int x :: st) := by
  refine g_icmp_ge C d ht (fun q => ?_) (fun q => ?_)
  · refine g_iconst (v := 0) C d5 (by decide) ?_
    rw [show bz (decide (x < y)) = 0 from bz_0.mpr (decide_eq_false (Int32.not_lt.mpr q))] at k
    exact k
  · refine g_iconst (v := 1) C d3 (by decide) ?_
    refine g_goto C d4 ht2 ?_
    rw [show bz (decide (x < y)) = 1 from congrArg bz (decide_eq_true (Int32.not_le.mp q))] at k
    exact k
theorem g_dia_lcmp_ge {E : EnvT} {K : KT} {cc : ByteArray} {own : String} {nL : Nat} {R : Room} {kc ks : Nat} {Wd : va_W} {lv : List (Nat × Value)} {pc : Nat} {st : List Value} {x y : Int64} {off off2 : Int} {tgt : Nat} (C : Ok E K cc own nL R) (d : decode cc pc = .ok (.lcmp, 1)) (d2 : decode cc (pc + 1) = .ok (.ifCond .ge off, 3)) (d3 : decode cc (pc + 1 + 3) = .ok (.iconst 1, 1)) (d4 : decode cc (pc + 1 + 3 + 1) = .ok (.goto off2, 3)) (d5 : decode cc tgt = .ok (.iconst 0, 1)) (ht : ((pc + 1 : Nat) : Int) + off = (tgt : Int)) (ht2 : ((pc + 1 + 3 + 1 : Nat) : Int) + off2 = ((tgt + 1 : Nat) : Int)) (_hx : True) (k : G E K kc ks Wd lv (tgt + 1) (.int (bz (decide (x < y))) :: st)) : G E K kc ks Wd lv pc (.long y :: .long x :: st) := by
  refine g_lcmp_ge C d d2 ht (fun q => ?_) (fun q => ?_)
  · refine g_iconst (v := 0) C d5 (by decide) ?_
    rw [show bz (decide (x < y)) = 0 from bz_0.mpr (decide_eq_false (Int64.not_lt.mpr q))] at k
    exact k
  · refine g_iconst (v := 1) C d3 (by decide) ?_
    refine g_goto C d4 ht2 ?_
    rw [show bz (decide (x < y)) = 1 from congrArg bz (decide_eq_true (Int64.not_le.mp q))] at k
    exact k
theorem g_dia_if_ge {E : EnvT} {K : KT} {cc : ByteArray} {own : String} {nL : Nat} {R : Room} {kc ks : Nat} {Wd : va_W} {lv : List (Nat × Value)} {pc : Nat} {st : List Value} {x : Int32} {off off2 : Int} {tgt : Nat} (C : Ok E K cc own nL R) (d : decode cc pc = .ok (.ifCond .ge off, 3)) (d3 : decode cc (pc + 3) = .ok (.iconst 1, 1)) (d4 : decode cc (pc + 3 + 1) = .ok (.goto off2, 3)) (d5 : decode cc tgt = .ok (.iconst 0, 1)) (ht : (pc : Int) + off = (tgt : Int)) (ht2 : ((pc + 3 + 1 : Nat) : Int) + off2 = ((tgt + 1 : Nat) : Int)) (_hx : True) (k : G E K kc ks Wd lv (tgt + 1) (.int (bz (decide (x < 0))) :: st)) : G E K kc ks Wd lv pc (.int x :: st) := by
  refine g_if_ge C d ht (fun q => ?_) (fun q => ?_)
  · refine g_iconst (v := 0) C d5 (by decide) ?_
    rw [show bz (decide (x < 0)) = 0 from bz_0.mpr (decide_eq_false (Int32.not_lt.mpr q))] at k
    exact k
  · refine g_iconst (v := 1) C d3 (by decide) ?_
    refine g_goto C d4 ht2 ?_
    rw [show bz (decide (x < 0)) = 1 from congrArg bz (decide_eq_true (Int32.not_le.mp q))] at k
    exact k
theorem g_dia_icmp_gt {E : EnvT} {K : KT} {cc : ByteArray} {own : String} {nL : Nat} {R : Room} {kc ks : Nat} {Wd : va_W} {lv : List (Nat × Value)} {pc : Nat} {st : List Value} {x y : Int32} {off off2 : Int} {tgt : Nat} (C : Ok E K cc own nL R) (d : decode cc pc = .ok (.if_icmp .gt off, 3)) (d3 : decode cc (pc + 3) = .ok (.iconst 1, 1)) (d4 : decode cc (pc + 3 + 1) = .ok (.goto off2, 3)) (d5 : decode cc tgt = .ok (.iconst 0, 1)) (ht : (pc : Int) + off = (tgt : Int)) (ht2 : ((pc + 3 + 1 : Nat) : Int) + off2 = ((tgt + 1 : Nat) : Int)) (_hx : True) (k : G E K kc ks Wd lv (tgt + 1) (.int (bz (decide (x ≤ y))) :: st)) : G E K kc ks Wd lv pc (.int y :: .int x :: st) := by
  refine g_icmp_gt C d ht (fun q => ?_) (fun q => ?_)
  · refine g_iconst (v := 0) C d5 (by decide) ?_
    rw [show bz (decide (x ≤ y)) = 0 from bz_0.mpr (decide_eq_false (Int32.not_le.mpr q))] at k
    exact k
  · refine g_iconst (v := 1) C d3 (by decide) ?_
    refine g_goto C d4 ht2 ?_
    rw [show bz (decide (x ≤ y)) = 1 from congrArg bz (decide_eq_true (Int32.not_lt.mp q))] at k
    exact k
theorem g_dia_lcmp_gt {E : EnvT} {K : KT} {cc : ByteArray} {own : String} {nL : Nat} {R : Room} {kc ks : Nat} {Wd : va_W} {lv : List (Nat × Value)} {pc : Nat} {st : List Value} {x y : Int64} {off off2 : Int} {tgt : Nat} (C : Ok E K cc own nL R) (d : decode cc pc = .ok (.lcmp, 1)) (d2 : decode cc (pc + 1) = .ok (.ifCond .gt off, 3)) (d3 : decode cc (pc + 1 + 3) = .ok (.iconst 1, 1)) (d4 : decode cc (pc + 1 + 3 + 1) = .ok (.goto off2, 3)) (d5 : decode cc tgt = .ok (.iconst 0, 1)) (ht : ((pc + 1 : Nat) : Int) + off = (tgt : Int)) (ht2 : ((pc + 1 + 3 + 1 : Nat) : Int) + off2 = ((tgt + 1 : Nat) : Int)) (_hx : True) (k : G E K kc ks Wd lv (tgt + 1) (.int (bz (decide (x ≤ y))) :: st)) : G E K kc ks Wd lv pc (.long y :: .long x :: st) := by
  refine g_lcmp_gt C d d2 ht (fun q => ?_) (fun q => ?_)
  · refine g_iconst (v := 0) C d5 (by decide) ?_
    rw [show bz (decide (x ≤ y)) = 0 from bz_0.mpr (decide_eq_false (Int64.not_le.mpr q))] at k
    exact k
  · refine g_iconst (v := 1) C d3 (by decide) ?_
    refine g_goto C d4 ht2 ?_
    rw [show bz (decide (x ≤ y)) = 1 from congrArg bz (decide_eq_true (Int64.not_lt.mp q))] at k
    exact k
theorem g_dia_if_gt {E : EnvT} {K : KT} {cc : ByteArray} {own : String} {nL : Nat} {R : Room} {kc ks : Nat} {Wd : va_W} {lv : List (Nat × Value)} {pc : Nat} {st : List Value} {x : Int32} {off off2 : Int} {tgt : Nat} (C : Ok E K cc own nL R) (d : decode cc pc = .ok (.ifCond .gt off, 3)) (d3 : decode cc (pc + 3) = .ok (.iconst 1, 1)) (d4 : decode cc (pc + 3 + 1) = .ok (.goto off2, 3)) (d5 : decode cc tgt = .ok (.iconst 0, 1)) (ht : (pc : Int) + off = (tgt : Int)) (ht2 : ((pc + 3 + 1 : Nat) : Int) + off2 = ((tgt + 1 : Nat) : Int)) (_hx : True) (k : G E K kc ks Wd lv (tgt + 1) (.int (bz (decide (x ≤ 0))) :: st)) : G E K kc ks Wd lv pc (.int x :: st) := by
  refine g_if_gt C d ht (fun q => ?_) (fun q => ?_)
  · refine g_iconst (v := 0) C d5 (by decide) ?_
    rw [show bz (decide (x ≤ 0)) = 0 from bz_0.mpr (decide_eq_false (Int32.not_le.mpr q))] at k
    exact k
  · refine g_iconst (v := 1) C d3 (by decide) ?_
    refine g_goto C d4 ht2 ?_
    rw [show bz (decide (x ≤ 0)) = 1 from congrArg bz (decide_eq_true (Int32.not_lt.mp q))] at k
    exact k
theorem g_dia_icmp_le {E : EnvT} {K : KT} {cc : ByteArray} {own : String} {nL : Nat} {R : Room} {kc ks : Nat} {Wd : va_W} {lv : List (Nat × Value)} {pc : Nat} {st : List Value} {x y : Int32} {off off2 : Int} {tgt : Nat} (C : Ok E K cc own nL R) (d : decode cc pc = .ok (.if_icmp .le off, 3)) (d3 : decode cc (pc + 3) = .ok (.iconst 1, 1)) (d4 : decode cc (pc + 3 + 1) = .ok (.goto off2, 3)) (d5 : decode cc tgt = .ok (.iconst 0, 1)) (ht : (pc : Int) + off = (tgt : Int)) (ht2 : ((pc + 3 + 1 : Nat) : Int) + off2 = ((tgt + 1 : Nat) : Int)) (_hx : True) (k : G E K kc ks Wd lv (tgt + 1) (.int (bz (decide (y < x))) :: st)) : G E K kc ks Wd lv pc (.int y :: .int x :: st) := by
  refine g_icmp_le C d ht (fun q => ?_) (fun q => ?_)
  · refine g_iconst (v := 0) C d5 (by decide) ?_
    rw [show bz (decide (y < x)) = 0 from bz_0.mpr (decide_eq_false (Int32.not_lt.mpr q))] at k
    exact k
  · refine g_iconst (v := 1) C d3 (by decide) ?_
    refine g_goto C d4 ht2 ?_
    rw [show bz (decide (y < x)) = 1 from congrArg bz (decide_eq_true (Int32.not_le.mp q))] at k
    exact k
theorem g_dia_lcmp_le {E : EnvT} {K : KT} {cc : ByteArray} {own : String} {nL : Nat} {R : Room} {kc ks : Nat} {Wd : va_W} {lv : List (Nat × Value)} {pc : Nat} {st : List Value} {x y : Int64} {off off2 : Int} {tgt : Nat} (C : Ok E K cc own nL R) (d : decode cc pc = .ok (.lcmp, 1)) (d2 : decode cc (pc + 1) = .ok (.ifCond .le off, 3)) (d3 : decode cc (pc + 1 + 3) = .ok (.iconst 1, 1)) (d4 : decode cc (pc + 1 + 3 + 1) = .ok (.goto off2, 3)) (d5 : decode cc tgt = .ok (.iconst 0, 1)) (ht : ((pc + 1 : Nat) : Int) + off = (tgt : Int)) (ht2 : ((pc + 1 + 3 + 1 : Nat) : Int) + off2 = ((tgt + 1 : Nat) : Int)) (_hx : True) (k : G E K kc ks Wd lv (tgt + 1) (.int (bz (decide (y < x))) :: st)) : G E K kc ks Wd lv pc (.long y :: .long x :: st) := by
  refine g_lcmp_le C d d2 ht (fun q => ?_) (fun q => ?_)
  · refine g_iconst (v := 0) C d5 (by decide) ?_
    rw [show bz (decide (y < x)) = 0 from bz_0.mpr (decide_eq_false (Int64.not_lt.mpr q))] at k
    exact k
  · refine g_iconst (v := 1) C d3 (by decide) ?_
    refine g_goto C d4 ht2 ?_
    rw [show bz (decide (y < x)) = 1 from congrArg bz (decide_eq_true (Int64.not_le.mp q))] at k
    exact k
theorem g_dia_if_le {E : EnvT} {K : KT} {cc : ByteArray} {own : String} {nL : Nat} {R : Room} {kc ks : Nat} {Wd : va_W} {lv : List (Nat × Value)} {pc : Nat} {st : List Value} {x : Int32} {off off2 : Int} {tgt : Nat} (C : Ok E K cc own nL R) (d : decode cc pc = .ok (.ifCond .le off, 3)) (d3 : decode cc (pc + 3) = .ok (.iconst 1, 1)) (d4 : decode cc (pc + 3 + 1) = .ok (.goto off2, 3)) (d5 : decode cc tgt = .ok (.iconst 0, 1)) (ht : (pc : Int) + off = (tgt : Int)) (ht2 : ((pc + 3 + 1 : Nat) : Int) + off2 = ((tgt + 1 : Nat) : Int)) (_hx : True) (k : G E K kc ks Wd lv (tgt + 1) (.int (bz (decide (0 < x))) :: st)) : G E K kc ks Wd lv pc (.int x :: st) := by
  refine g_if_le C d ht (fun q => ?_) (fun q => ?_)
  · refine g_iconst (v := 0) C d5 (by decide) ?_
    rw [show bz (decide (0 < x)) = 0 from bz_0.mpr (decide_eq_false (Int32.not_lt.mpr q))] at k
    exact k
  · refine g_iconst (v := 1) C d3 (by decide) ?_
    refine g_goto C d4 ht2 ?_
    rw [show bz (decide (0 < x)) = 1 from congrArg bz (decide_eq_true (Int32.not_le.mp q))] at k
    exact k
theorem g_bz1_ne {E : EnvT} {K : KT} {cc : ByteArray} {own : String} {nL : Nat} {R : Room} {kc ks : Nat} {Wd : va_W} {lv : List (Nat × Value)} {pc : Nat} {st : List Value} {b : Bool} {off : Int} {tgt : Nat} (C : Ok E K cc own nL R) (d : decode cc pc = .ok (.if_icmp .ne off, 3)) (ht : (pc : Int) + off = (tgt : Int)) (kt : b = false → G E K kc ks Wd lv tgt st) (kf : b = true → G E K kc ks Wd lv (pc + 3) st) : G E K kc ks Wd lv pc (.int 1 :: .int (bz b) :: st) := g_icmp_ne C d ht (fun q => kt (by cases b; rfl; exact absurd rfl q)) (fun q => kf (by cases b; exact absurd q (by decide); rfl))
theorem g_bz1_eq {E : EnvT} {K : KT} {cc : ByteArray} {own : String} {nL : Nat} {R : Room} {kc ks : Nat} {Wd : va_W} {lv : List (Nat × Value)} {pc : Nat} {st : List Value} {b : Bool} {off : Int} {tgt : Nat} (C : Ok E K cc own nL R) (d : decode cc pc = .ok (.if_icmp .eq off, 3)) (ht : (pc : Int) + off = (tgt : Int)) (kt : b = true → G E K kc ks Wd lv tgt st) (kf : b = false → G E K kc ks Wd lv (pc + 3) st) : G E K kc ks Wd lv pc (.int 1 :: .int (bz b) :: st) := g_icmp_eq C d ht (fun q => kt (by cases b; exact absurd q (by decide); rfl)) (fun q => kf (by cases b; rfl; exact absurd rfl q))
theorem g_tin {E : EnvT} {K : KT} {cc : ByteArray} {own : String} {nL : Nat} {R : Room} {kc ks : Nat} {Wd : va_W} {lv : List (Nat × Value)} {pc : Nat} {st : List Value} {dflt lo hi : Int} {offs : Array Int} {len : Nat} {x : Int32} {off : Int} {tgt : Nat} (C : Ok E K cc own nL R) (d : decode cc pc = .ok (.tableswitch dflt lo hi offs, len)) (h1 : ¬ x.toInt < lo) (h2 : ¬ hi < x.toInt) (ho : offs[(x.toInt - lo).toNat]? = some off) (ht : (pc : Int) + off = (tgt : Int)) (k : G E K kc ks Wd lv tgt st) : G E K kc ks Wd lv pc (.int x :: st) := by
  obtain ⟨p, l, e, R1, s, m, args, below, meth, c, Q, A, nL1⟩ := E
  obtain ⟨hx, hb, hml, hown, hts, hN, hK, hA, rfl, rfl⟩ := C
  intro H locs ls hP hD hS hl
  exact lv_tableIn hx hb d h1 h2 ho ht (k H locs ls hP hD hS hl)
theorem g_tout {E : EnvT} {K : KT} {cc : ByteArray} {own : String} {nL : Nat} {R : Room} {kc ks : Nat} {Wd : va_W} {lv : List (Nat × Value)} {pc : Nat} {st : List Value} {dflt lo hi : Int} {offs : Array Int} {len : Nat} {x : Int32} {tgt : Nat} (C : Ok E K cc own nL R) (d : decode cc pc = .ok (.tableswitch dflt lo hi offs, len)) (h : x.toInt < lo ∨ hi < x.toInt) (ht : (pc : Int) + dflt = (tgt : Int)) (k : G E K kc ks Wd lv tgt st) : G E K kc ks Wd lv pc (.int x :: st) := by
  obtain ⟨p, l, e, R1, s, m, args, below, meth, c, Q, A, nL1⟩ := E
  obtain ⟨hx, hb, hml, hown, hts, hN, hK, hA, rfl, rfl⟩ := C
  intro H locs ls hP hD hS hl
  exact lv_tableOut hx hb d h ht (k H locs ls hP hD hS hl)
theorem g_bzcmp_ne {E : EnvT} {K : KT} {cc : ByteArray} {own : String} {nL : Nat} {R : Room} {kc ks : Nat} {Wd : va_W} {lv : List (Nat × Value)} {pc : Nat} {st : List Value} {a b : Bool} {off : Int} {tgt : Nat} (C : Ok E K cc own nL R) (d : decode cc pc = .ok (.if_icmp .ne off, 3)) (ht : (pc : Int) + off = (tgt : Int)) (kt : (a == b) = false → G E K kc ks Wd lv tgt st) (kf : (a == b) = true → G E K kc ks Wd lv (pc + 3) st) : G E K kc ks Wd lv pc (.int (bz b) :: .int (bz a) :: st) := g_icmp_ne C d ht (fun q => kt (by cases a <;> cases b <;> first | rfl | exact absurd rfl q)) (fun q => kf (by cases a <;> cases b <;> first | rfl | exact absurd q (by decide)))
set_option maxHeartbeats 600000 in
set_option maxRecDepth 100000 in
theorem kX1_isRegister (K : KT) (Wd : va_W) (x : Int32) : ∀ lau : Launch, Con lau yX1_isRegister cX1_isRegister 1 (some .boolean) 0 0 K Wd (fun _ : Unit => Wd) [.int x] (some (.int (bz (isReg x)))) := by
  refine conZ (by decide) (Nat.le_of_ble_eq_true rfl) (fun E C hR => ?_)
  show G E K 0 0 Wd [(0, .int x)] 0 []
  refine g_iload_n (i := 0) C dX1_isRegister_0 rfl rfl ?_
  refine g_if_lt (tgt := 14) C dX1_isRegister_1 (by decide) (fun c1_1 => ?_) (fun c1_1 => ?_)
  · skip
    refine g_iconst (v := 0) C dX1_isRegister_14 (by decide) ?_
    exact hR _ _ _ _ () dX1_isRegister_15 (by simp [isReg, bz, c1_1]) (rfl)
  · skip
    refine g_iload_n (i := 0) C dX1_isRegister_4 rfl rfl ?_
    refine g_bipush (v := 12) C dX1_isRegister_5 (by decide) ?_
    refine g_icmp_ge (tgt := 14) C dX1_isRegister_7 (by decide) (fun c7_2 => ?_) (fun c7_2 => ?_)
    · skip
      refine g_iconst (v := 0) C dX1_isRegister_14 (by decide) ?_
      exact hR _ _ _ _ () dX1_isRegister_15 (by simp [isReg, bz, c1_1, c7_2]) (rfl)
    · skip
      refine g_iconst (v := 1) C dX1_isRegister_10 (by decide) ?_
      refine g_goto (tgt := 15) C dX1_isRegister_11 (by decide) ?_
      exact hR _ _ _ _ () dX1_isRegister_15 (by simp [isReg, bz, c1_1, c7_2]) (rfl)

set_option maxHeartbeats 600000 in
set_option maxRecDepth 100000 in
theorem kX1_isSum (K : KT) (Wd : va_W) (x : Int32) : ∀ lau : Launch, Con lau yX1_isSum cX1_isSum 1 (some .boolean) 0 0 K Wd (fun _ : Unit => Wd) [.int x] (some (.int (bz (isSm x)))) := by
  refine conZ (by decide) (Nat.le_of_ble_eq_true rfl) (fun E C hR => ?_)
  show G E K 0 0 Wd [(0, .int x)] 0 []
  refine g_iload_n (i := 0) C dX1_isSum_0 rfl rfl ?_
  refine g_if_lt (tgt := 14) C dX1_isSum_1 (by decide) (fun c1_1 => ?_) (fun c1_1 => ?_)
  · skip
    refine g_iconst (v := 0) C dX1_isSum_14 (by decide) ?_
    exact hR _ _ _ _ () dX1_isSum_15 (by simp [isSm, bz, c1_1]) (rfl)
  · skip
    refine g_iload_n (i := 0) C dX1_isSum_4 rfl rfl ?_
    refine g_bipush (v := 8) C dX1_isSum_5 (by decide) ?_
    refine g_icmp_ge (tgt := 14) C dX1_isSum_7 (by decide) (fun c7_2 => ?_) (fun c7_2 => ?_)
    · skip
      refine g_iconst (v := 0) C dX1_isSum_14 (by decide) ?_
      exact hR _ _ _ _ () dX1_isSum_15 (by simp [isSm, bz, c1_1, c7_2]) (rfl)
    · skip
      refine g_iconst (v := 1) C dX1_isSum_10 (by decide) ?_
      refine g_goto (tgt := 15) C dX1_isSum_11 (by decide) ?_
      exact hR _ _ _ _ () dX1_isSum_15 (by simp [isSm, bz, c1_1, c7_2]) (rfl)

set_option maxHeartbeats 600000 in
set_option maxRecDepth 100000 in
theorem kX1_isListedDay (K : KT) (Wd : va_W) (x : Int32) : ∀ lau : Launch, Con lau yX1_isListedDay cX1_isListedDay 1 (some .boolean) 0 0 K Wd (fun _ : Unit => Wd) [.int x] (some (.int (bz (isLd x)))) := by
  refine conZ (by decide) (Nat.le_of_ble_eq_true rfl) (fun E C hR => ?_)
  show G E K 0 0 Wd [(0, .int x)] 0 []
  refine g_iload_n (i := 0) C dX1_isListedDay_0 rfl rfl ?_
  refine g_if_lt (tgt := 14) C dX1_isListedDay_1 (by decide) (fun c1_1 => ?_) (fun c1_1 => ?_)
  · skip
    refine g_iconst (v := 0) C dX1_isListedDay_14 (by decide) ?_
    exact hR _ _ _ _ () dX1_isListedDay_15 (by simp [isLd, bz, c1_1]) (rfl)
  · skip
    refine g_iload_n (i := 0) C dX1_isListedDay_4 rfl rfl ?_
    refine g_bipush (v := 20) C dX1_isListedDay_5 (by decide) ?_
    refine g_icmp_gt (tgt := 14) C dX1_isListedDay_7 (by decide) (fun c7_2 => ?_) (fun c7_2 => ?_)
    · skip
      refine g_iconst (v := 0) C dX1_isListedDay_14 (by decide) ?_
      exact hR _ _ _ _ () dX1_isListedDay_15 (by simp [isLd, bz, c1_1, c7_2]) (rfl)
    · skip
      refine g_iconst (v := 1) C dX1_isListedDay_10 (by decide) ?_
      refine g_goto (tgt := 15) C dX1_isListedDay_11 (by decide) ?_
      exact hR _ _ _ _ () dX1_isListedDay_15 (by simp [isLd, bz, c1_1, c7_2]) (rfl)

set_option maxHeartbeats 600000 in
set_option maxRecDepth 100000 in
theorem kX1_isExponent (K : KT) (Wd : va_W) (x : Int32) : ∀ lau : Launch, Con lau yX1_isExponent cX1_isExponent 1 (some .boolean) 0 0 K Wd (fun _ : Unit => Wd) [.int x] (some (.int (bz (isEx x)))) := by
  refine conZ (by decide) (Nat.le_of_ble_eq_true rfl) (fun E C hR => ?_)
  show G E K 0 0 Wd [(0, .int x)] 0 []
  refine g_iload_n (i := 0) C dX1_isExponent_0 rfl rfl ?_
  refine g_bipush (v := (-6)) C dX1_isExponent_1 (by decide) ?_
  refine g_icmp_lt (tgt := 16) C dX1_isExponent_3 (by decide) (fun c3_1 => ?_) (fun c3_1 => ?_)
  · skip
    refine g_iconst (v := 0) C dX1_isExponent_16 (by decide) ?_
    exact hR _ _ _ _ () dX1_isExponent_17 (by simp [isEx, bz, c3_1]) (rfl)
  · skip
    refine g_iload_n (i := 0) C dX1_isExponent_6 rfl rfl ?_
    refine g_bipush (v := 6) C dX1_isExponent_7 (by decide) ?_
    refine g_icmp_gt (tgt := 16) C dX1_isExponent_9 (by decide) (fun c9_2 => ?_) (fun c9_2 => ?_)
    · skip
      refine g_iconst (v := 0) C dX1_isExponent_16 (by decide) ?_
      exact hR _ _ _ _ () dX1_isExponent_17 (by simp [isEx, bz, c3_1, c9_2]) (rfl)
    · skip
      refine g_iconst (v := 1) C dX1_isExponent_12 (by decide) ?_
      refine g_goto (tgt := 17) C dX1_isExponent_13 (by decide) ?_
      exact hR _ _ _ _ () dX1_isExponent_17 (by simp [isEx, bz, c3_1, c9_2]) (rfl)

set_option maxHeartbeats 600000 in
set_option maxRecDepth 100000 in
theorem kX1_isFraction (K : KT) (Wd : va_W) (x : Int32) (y : Int32) : ∀ lau : Launch, Con lau yX1_isFraction cX1_isFraction 2 (some .boolean) 0 0 K Wd (fun _ : Unit => Wd) [.int x, .int y] (some (.int (bz (isFr x y)))) := by
  refine conZ (by decide) (Nat.le_of_ble_eq_true rfl) (fun E C hR => ?_)
  show G E K 0 0 Wd [(0, .int x), (1, .int y)] 0 []
  refine g_iload_n (i := 0) C dX1_isFraction_0 rfl rfl ?_
  refine g_ldc (v := (-1000000000)) C dX1_isFraction_1 kc_X1_62 ?_
  refine g_icmp_lt (tgt := 26) C dX1_isFraction_3 (by decide) (fun c3_1 => ?_) (fun c3_1 => ?_)
  · skip
    refine g_iconst (v := 0) C dX1_isFraction_26 (by decide) ?_
    exact hR _ _ _ _ () dX1_isFraction_27 (by simp [isFr, bz, c3_1]) (rfl)
  · skip
    refine g_iload_n (i := 0) C dX1_isFraction_6 rfl rfl ?_
    refine g_ldc (v := 1000000000) C dX1_isFraction_7 kc_X1_163 ?_
    refine g_icmp_gt (tgt := 26) C dX1_isFraction_9 (by decide) (fun c9_2 => ?_) (fun c9_2 => ?_)
    · skip
      refine g_iconst (v := 0) C dX1_isFraction_26 (by decide) ?_
      exact hR _ _ _ _ () dX1_isFraction_27 (by simp [isFr, bz, c3_1, c9_2]) (rfl)
    · skip
      refine g_iload_n (i := 1) C dX1_isFraction_12 rfl rfl ?_
      refine g_if_lt (tgt := 26) C dX1_isFraction_13 (by decide) (fun c13_3 => ?_) (fun c13_3 => ?_)
      · skip
        refine g_iconst (v := 0) C dX1_isFraction_26 (by decide) ?_
        exact hR _ _ _ _ () dX1_isFraction_27 (by simp [isFr, bz, c3_1, c9_2, c13_3]) (rfl)
      · skip
        refine g_iload_n (i := 1) C dX1_isFraction_16 rfl rfl ?_
        refine g_bipush (v := 20) C dX1_isFraction_17 (by decide) ?_
        refine g_icmp_gt (tgt := 26) C dX1_isFraction_19 (by decide) (fun c19_4 => ?_) (fun c19_4 => ?_)
        · skip
          refine g_iconst (v := 0) C dX1_isFraction_26 (by decide) ?_
          exact hR _ _ _ _ () dX1_isFraction_27 (by simp [isFr, bz, c3_1, c9_2, c13_3, c19_4]) (rfl)
        · skip
          refine g_iconst (v := 1) C dX1_isFraction_22 (by decide) ?_
          refine g_goto (tgt := 27) C dX1_isFraction_23 (by decide) ?_
          exact hR _ _ _ _ () dX1_isFraction_27 (by simp [isFr, bz, c3_1, c9_2, c13_3, c19_4]) (rfl)

set_option maxHeartbeats 600000 in
set_option maxRecDepth 100000 in
theorem kX1_areRegisters (K : KT) (Wd : va_W) (x : Int32) : ∀ lau : Launch, Con lau yX1_areRegisters cX1_areRegisters 1 (some .boolean) 0 0 K Wd (fun _ : Unit => Wd) [.int x] (some (.int (bz (areRg x)))) := by
  refine conZ (by decide) (Nat.le_of_ble_eq_true rfl) (fun E C hR => ?_)
  show G E K 0 0 Wd [(0, .int x)] 0 []
  refine g_iload_n (i := 0) C dX1_areRegisters_0 rfl rfl ?_
  refine g_bipush (v := 12) C dX1_areRegisters_1 (by decide) ?_
  refine g_iushr (v := ushrI x 12) C dX1_areRegisters_3 rfl ?_
  refine g_dia_if_ne (tgt := 11) C dX1_areRegisters_4 dX1_areRegisters_7 dX1_areRegisters_8 dX1_areRegisters_11 (by decide) (by decide) trivial ?_
  exact hR _ _ _ _ () dX1_areRegisters_12 (rfl) (rfl)

set_option maxHeartbeats 600000 in
set_option maxRecDepth 100000 in
theorem kX1_has (K : KT) (Wd : va_W) (x : Int32) (y : Int32) : ∀ lau : Launch, Con lau yX1_has cX1_has 2 (some .boolean) 0 0 K Wd (fun _ : Unit => Wd) [.int x, .int y] (some (.int (bz (tb x y)))) := by
  refine conZ (by decide) (Nat.le_of_ble_eq_true rfl) (fun E C hR => ?_)
  show G E K 0 0 Wd [(0, .int x), (1, .int y)] 0 []
  refine g_iload_n (i := 0) C dX1_has_0 rfl rfl ?_
  refine g_iload_n (i := 1) C dX1_has_1 rfl rfl ?_
  refine g_iushr (v := ushrI x y) C dX1_has_2 rfl ?_
  refine g_iconst (v := 1) C dX1_has_3 (by decide) ?_
  refine g_iand C dX1_has_4 ?_
  refine g_iconst (v := 1) C dX1_has_5 (by decide) ?_
  refine g_dia_icmp_ne (tgt := 13) C dX1_has_6 dX1_has_9 dX1_has_10 dX1_has_13 (by decide) (by decide) trivial ?_
  exact hR _ _ _ _ () dX1_has_14 (rfl) (rfl)

set_option maxHeartbeats 600000 in
set_option maxRecDepth 100000 in
theorem kX1_isPlus (K : KT) (Wd : va_W) (x : Int32) (y : Int32) : ∀ lau : Launch, Con lau yX1_isPlus cX1_isPlus 2 (some .boolean) 1 21 K Wd (fun _ : Unit => Wd) [.int x, .int y] (some (.int (bz (tb x y)))) := by
  refine conZ (by decide) (Nat.le_of_ble_eq_true rfl) (fun E C hR => ?_)
  show G E K 0 0 Wd [(0, .int x), (1, .int y)] 0 []
  refine g_iload_n (i := 0) C dX1_isPlus_0 rfl rfl ?_
  refine g_iload_n (i := 1) C dX1_isPlus_1 rfl rfl ?_
  refine g_callS (av := [.int x, .int y]) C dX1_isPlus_2 ln_X1_108 mf_X1_has (kX1_has K Wd x y) rfl rfl (Nat.le_of_ble_eq_true rfl) ⟨Nat.le_of_ble_eq_true rfl, Nat.le_of_ble_eq_true rfl⟩ ⟨Nat.zero_le _, Nat.zero_le _⟩ (fun _ => ?_)
  exact hR _ _ _ _ () dX1_isPlus_5 (rfl) (rfl)

set_option maxHeartbeats 600000 in
set_option maxRecDepth 100000 in
theorem kX1_lowBits (K : KT) (Wd : va_W) (x : Int32) : ∀ lau : Launch, Con lau yX1_lowBits cX1_lowBits 1 (some .int) 0 0 K Wd (fun _ : Unit => Wd) [.int x] (some (.int (lowB x))) := by
  refine conI (by decide) (Nat.le_of_ble_eq_true rfl) (fun E C hR => ?_)
  show G E K 0 0 Wd [(0, .int x)] 0 []
  refine g_iconst (v := 1) C dX1_lowBits_0 (by decide) ?_
  refine g_iload_n (i := 0) C dX1_lowBits_1 rfl rfl ?_
  refine g_ishl C dX1_lowBits_2 ?_
  refine g_iconst (v := 1) C dX1_lowBits_3 (by decide) ?_
  refine g_isub C dX1_lowBits_4 ?_
  exact hR _ _ _ _ () dX1_lowBits_5 (rfl) (rfl)

set_option maxHeartbeats 600000 in
set_option maxRecDepth 100000 in
theorem kX1_signOf (K : KT) (Wd : va_W) (x : Int64) : ∀ lau : Launch, Con lau yX1_signOf cX1_signOf 2 (some .int) 0 0 K Wd (fun _ : Unit => Wd) [.long x] (some (.int (sgnO x))) := by
  refine conI (by decide) (Nat.le_of_ble_eq_true rfl) (fun E C hR => ?_)
  show G E K 0 0 Wd [(0, .long x)] 0 []
  refine g_lload_n (i := 0) C dX1_signOf_0 rfl rfl ?_
  refine g_lconst (v := 0) C dX1_signOf_1 (by decide) ?_
  refine g_lcmp_ne (tgt := 8) C dX1_signOf_2 dX1_signOf_3 (by decide) (fun c2_1 => ?_) (fun c2_1 => ?_)
  · skip
    refine g_lload_n (i := 0) C dX1_signOf_8 rfl rfl ?_
    refine g_lconst (v := 0) C dX1_signOf_9 (by decide) ?_
    refine g_lcmp_ge (tgt := 18) C dX1_signOf_10 dX1_signOf_11 (by decide) (fun c10_2 => ?_) (fun c10_2 => ?_)
    · skip
      refine g_iconst (v := 1) C dX1_signOf_18 (by decide) ?_
      exact hR _ _ _ _ () dX1_signOf_19 (by simp [sgnO, c2_1, c10_2]) (rfl)
    · skip
      refine g_iconst (v := (-1)) C dX1_signOf_14 (by decide) ?_
      refine g_goto (tgt := 19) C dX1_signOf_15 (by decide) ?_
      exact hR _ _ _ _ () dX1_signOf_19 (by simp [sgnO, c2_1, c10_2]) (rfl)
  · skip
    refine g_iconst (v := 0) C dX1_signOf_6 (by decide) ?_
    exact hR _ _ _ _ () dX1_signOf_7 (by simp [sgnO, c2_1]) (rfl)

set_option maxHeartbeats 600000 in
set_option maxRecDepth 100000 in
theorem kX2_in (K : KT) (Wd : va_W) (x : Int64) (y : Int64) (z : Int64) : ∀ lau : Launch, Con lau yX2_in cX2_in 6 (some .boolean) 0 0 K Wd (fun _ : Unit => Wd) [.long x, .long y, .long z] (some (.int (bz (inL x y z)))) := by
  refine conZ (by decide) (Nat.le_of_ble_eq_true rfl) (fun E C hR => ?_)
  show G E K 0 0 Wd [(0, .long x), (2, .long y), (4, .long z)] 0 []
  refine g_lload_n (i := 0) C dX2_in_0 rfl rfl ?_
  refine g_lload_n (i := 2) C dX2_in_1 rfl rfl ?_
  refine g_lcmp_lt (tgt := 17) C dX2_in_2 dX2_in_3 (by decide) (fun c2_1 => ?_) (fun c2_1 => ?_)
  · skip
    refine g_iconst (v := 0) C dX2_in_17 (by decide) ?_
    exact hR _ _ _ _ () dX2_in_18 (by simp [inL, bz, c2_1]) (rfl)
  · skip
    refine g_lload_n (i := 0) C dX2_in_6 rfl rfl ?_
    refine g_lload C dX2_in_7 rfl ?_
    refine g_lcmp_gt (tgt := 17) C dX2_in_9 dX2_in_10 (by decide) (fun c9_2 => ?_) (fun c9_2 => ?_)
    · skip
      refine g_iconst (v := 0) C dX2_in_17 (by decide) ?_
      exact hR _ _ _ _ () dX2_in_18 (by simp [inL, bz, c2_1, c9_2]) (rfl)
    · skip
      refine g_iconst (v := 1) C dX2_in_13 (by decide) ?_
      refine g_goto (tgt := 18) C dX2_in_14 (by decide) ?_
      exact hR _ _ _ _ () dX2_in_18 (by simp [inL, bz, c2_1, c9_2]) (rfl)

set_option maxHeartbeats 600000 in
set_option maxRecDepth 100000 in
theorem kX2_isRegister (K : KT) (Wd : va_W) (x : Int32) : ∀ lau : Launch, Con lau yX2_isRegister cX2_isRegister 1 (some .boolean) 1 25 K Wd (fun _ : Unit => Wd) [.int x] (some (.int (bz (isReg x)))) := by
  refine conZ (by decide) (Nat.le_of_ble_eq_true rfl) (fun E C hR => ?_)
  show G E K 0 0 Wd [(0, .int x)] 0 []
  refine g_iload_n (i := 0) C dX2_isRegister_0 rfl rfl ?_
  refine g_i2l (v := Int32.toInt64 x) C dX2_isRegister_1 rfl ?_
  refine g_lconst (v := 0) C dX2_isRegister_2 (by decide) ?_
  refine g_ldc2 (v := 11) C dX2_isRegister_3 kc_X2_30 ?_
  refine g_callS (av := [.long (Int32.toInt64 x), .long 0, .long 11]) C dX2_isRegister_6 ln_X2_32 mf_X2_in (kX2_in K Wd (Int32.toInt64 x) 0 11) rfl rfl (Nat.le_of_ble_eq_true rfl) ⟨Nat.le_of_ble_eq_true rfl, Nat.le_of_ble_eq_true rfl⟩ ⟨Nat.zero_le _, Nat.zero_le _⟩ (fun _ => ?_)
  exact hR _ _ _ _ () dX2_isRegister_9 (by rw [inL_reg]) (rfl)

set_option maxHeartbeats 600000 in
set_option maxRecDepth 100000 in
theorem kX2_isSum (K : KT) (Wd : va_W) (x : Int32) : ∀ lau : Launch, Con lau yX2_isSum cX2_isSum 1 (some .boolean) 1 25 K Wd (fun _ : Unit => Wd) [.int x] (some (.int (bz (isSm x)))) := by
  refine conZ (by decide) (Nat.le_of_ble_eq_true rfl) (fun E C hR => ?_)
  show G E K 0 0 Wd [(0, .int x)] 0 []
  refine g_iload_n (i := 0) C dX2_isSum_0 rfl rfl ?_
  refine g_i2l (v := Int32.toInt64 x) C dX2_isSum_1 rfl ?_
  refine g_lconst (v := 0) C dX2_isSum_2 (by decide) ?_
  refine g_ldc2 (v := 7) C dX2_isSum_3 kc_X2_103 ?_
  refine g_callS (av := [.long (Int32.toInt64 x), .long 0, .long 7]) C dX2_isSum_6 ln_X2_32 mf_X2_in (kX2_in K Wd (Int32.toInt64 x) 0 7) rfl rfl (Nat.le_of_ble_eq_true rfl) ⟨Nat.le_of_ble_eq_true rfl, Nat.le_of_ble_eq_true rfl⟩ ⟨Nat.zero_le _, Nat.zero_le _⟩ (fun _ => ?_)
  exact hR _ _ _ _ () dX2_isSum_9 (by rw [inL_sm]) (rfl)

set_option maxHeartbeats 600000 in
set_option maxRecDepth 100000 in
theorem kX2_compare (K : KT) (Wd : va_W) (x : Int64) (y : Int64) : ∀ lau : Launch, Con lau yX2_compare cX2_compare 4 (some .int) 0 0 K Wd (fun _ : Unit => Wd) [.long x, .long y] (some (.int (cmpL x y))) := by
  refine conI (by decide) (Nat.le_of_ble_eq_true rfl) (fun E C hR => ?_)
  show G E K 0 0 Wd [(0, .long x), (2, .long y)] 0 []
  refine g_lload_n (i := 0) C dX2_compare_0 rfl rfl ?_
  refine g_lload_n (i := 2) C dX2_compare_1 rfl rfl ?_
  refine g_lcmp_ge (tgt := 10) C dX2_compare_2 dX2_compare_3 (by decide) (fun c2_1 => ?_) (fun c2_1 => ?_)
  · skip
    refine g_lload_n (i := 0) C dX2_compare_10 rfl rfl ?_
    refine g_lload_n (i := 2) C dX2_compare_11 rfl rfl ?_
    refine g_dia_lcmp_le (tgt := 20) C dX2_compare_12 dX2_compare_13 dX2_compare_16 dX2_compare_17 dX2_compare_20 (by decide) (by decide) trivial ?_
    exact hR _ _ _ _ () dX2_compare_21 (by simp [cmpL, c2_1]) (rfl)
  · skip
    refine g_iconst (v := (-1)) C dX2_compare_6 (by decide) ?_
    refine g_goto (tgt := 21) C dX2_compare_7 (by decide) ?_
    exact hR _ _ _ _ () dX2_compare_21 (by simp [cmpL, c2_1]) (rfl)

set_option maxHeartbeats 600000 in
set_option maxRecDepth 100000 in
theorem kX2_size (K : KT) (Wd : va_W) (x : Int32) (y : Int32) : ∀ lau : Launch, Con lau yX2_size cX2_size 2 (some .int) 0 0 K Wd (fun _ : Unit => Wd) [.int x, .int y] (some (.int (sizM x y))) := by
  refine conI (by decide) (Nat.le_of_ble_eq_true rfl) (fun E C hR => ?_)
  show G E K 0 0 Wd [(0, .int x), (1, .int y)] 0 []
  refine g_iload_n (i := 0) C dX2_size_0 rfl rfl ?_
  refine g_iload_n (i := 1) C dX2_size_1 rfl rfl ?_
  refine g_icmp_gt (tgt := 17) C dX2_size_2 (by decide) (fun c2_1 => ?_) (fun c2_1 => ?_)
  · skip
    refine g_iconst (v := 0) C dX2_size_17 (by decide) ?_
    exact hR _ _ _ _ () dX2_size_18 (by simp [sizM, c2_1]) (rfl)
  · skip
    refine g_iconst (v := 1) C dX2_size_5 (by decide) ?_
    refine g_iload_n (i := 1) C dX2_size_6 rfl rfl ?_
    refine g_iload_n (i := 0) C dX2_size_7 rfl rfl ?_
    refine g_isub C dX2_size_8 ?_
    refine g_iconst (v := 1) C dX2_size_9 (by decide) ?_
    refine g_iadd C dX2_size_10 ?_
    refine g_ishl C dX2_size_11 ?_
    refine g_iconst (v := 1) C dX2_size_12 (by decide) ?_
    refine g_isub C dX2_size_13 ?_
    refine g_goto (tgt := 18) C dX2_size_14 (by decide) ?_
    exact hR _ _ _ _ () dX2_size_18 (by simp [sizM, c2_1]) (rfl)

set_option maxHeartbeats 600000 in
set_option maxRecDepth 100000 in
theorem kX2_place (K : KT) (Wd : va_W) (x : Int32) (y : Int32) : ∀ lau : Launch, Con lau yX2_place cX2_place 2 (some .int) 0 0 K Wd (fun _ : Unit => Wd) [.int x, .int y] (some (.int (13 * x + y + 6))) := by
  refine conI (by decide) (Nat.le_of_ble_eq_true rfl) (fun E C hR => ?_)
  show G E K 0 0 Wd [(0, .int x), (1, .int y)] 0 []
  refine g_bipush (v := 13) C dX2_place_0 (by decide) ?_
  refine g_iload_n (i := 0) C dX2_place_2 rfl rfl ?_
  refine g_imul C dX2_place_3 ?_
  refine g_iload_n (i := 1) C dX2_place_4 rfl rfl ?_
  refine g_iadd C dX2_place_5 ?_
  refine g_bipush (v := 6) C dX2_place_6 (by decide) ?_
  refine g_iadd C dX2_place_8 ?_
  exact hR _ _ _ _ () dX2_place_9 (rfl) (rfl)

set_option maxHeartbeats 600000 in
set_option maxRecDepth 100000 in
theorem kJ13_bitCount_95d88 (K : KT) (Wd : va_W) (x : Int64) : ∀ lau : Launch, Con lau yJ13_bitCount_95d88 cJ13_bitCount_95d88 2 (some .int) 0 0 K Wd (fun _ : Unit => Wd) [.long x] (some (.int (bcL x))) := by
  refine conI (by decide) (Nat.le_of_ble_eq_true rfl) (fun E C hR => ?_)
  show G E K 0 0 Wd [(0, .long x)] 0 []
  refine g_lload_n (i := 0) C dJ13_bitCount_95d88_0 rfl rfl ?_
  refine g_lload_n (i := 0) C dJ13_bitCount_95d88_1 rfl rfl ?_
  refine g_iconst (v := 1) C dJ13_bitCount_95d88_2 (by decide) ?_
  refine g_lushr (v := ushrL x 1) C dJ13_bitCount_95d88_3 rfl ?_
  refine g_ldc2 (v := 6148914691236517205) C dJ13_bitCount_95d88_4 kc_J13_314 ?_
  refine g_land C dJ13_bitCount_95d88_7 ?_
  refine g_lsub C dJ13_bitCount_95d88_8 ?_
  refine g_lstore_n (i := 0) (lv2 := [(0, .long (x - ((ushrL x 1) &&& 6148914691236517205)))]) C dJ13_bitCount_95d88_9 rfl (by decide) rfl ?_
  refine g_lload_n (i := 0) C dJ13_bitCount_95d88_10 rfl rfl ?_
  refine g_ldc2 (v := 3689348814741910323) C dJ13_bitCount_95d88_11 kc_J13_316 ?_
  refine g_land C dJ13_bitCount_95d88_14 ?_
  refine g_lload_n (i := 0) C dJ13_bitCount_95d88_15 rfl rfl ?_
  refine g_iconst (v := 2) C dJ13_bitCount_95d88_16 (by decide) ?_
  refine g_lushr (v := ushrL (x - ((ushrL x 1) &&& 6148914691236517205)) 2) C dJ13_bitCount_95d88_17 rfl ?_
  refine g_ldc2 (v := 3689348814741910323) C dJ13_bitCount_95d88_18 kc_J13_316 ?_
  refine g_land C dJ13_bitCount_95d88_21 ?_
  refine g_ladd C dJ13_bitCount_95d88_22 ?_
  refine g_lstore_n (i := 0) (lv2 := [(0, .long (((x - ((ushrL x 1) &&& 6148914691236517205)) &&& 3689348814741910323) + ((ushrL (x - ((ushrL x 1) &&& 6148914691236517205)) 2) &&& 3689348814741910323)))]) C dJ13_bitCount_95d88_23 rfl (by decide) rfl ?_
  refine g_lload_n (i := 0) C dJ13_bitCount_95d88_24 rfl rfl ?_
  refine g_lload_n (i := 0) C dJ13_bitCount_95d88_25 rfl rfl ?_
  refine g_iconst (v := 4) C dJ13_bitCount_95d88_26 (by decide) ?_
  refine g_lushr (v := ushrL (((x - ((ushrL x 1) &&& 6148914691236517205)) &&& 3689348814741910323) + ((ushrL (x - ((ushrL x 1) &&& 6148914691236517205)) 2) &&& 3689348814741910323)) 4) C dJ13_bitCount_95d88_27 rfl ?_
  refine g_ladd C dJ13_bitCount_95d88_28 ?_
  refine g_ldc2 (v := 1085102592571150095) C dJ13_bitCount_95d88_29 kc_J13_318 ?_
  refine g_land C dJ13_bitCount_95d88_32 ?_
  refine g_lstore_n (i := 0) (lv2 := [(0, .long (((((x - ((ushrL x 1) &&& 6148914691236517205)) &&& 3689348814741910323) + ((ushrL (x - ((ushrL x 1) &&& 6148914691236517205)) 2) &&& 3689348814741910323)) + (ushrL (((x - ((ushrL x 1) &&& 6148914691236517205)) &&& 3689348814741910323) + ((ushrL (x - ((ushrL x 1) &&& 6148914691236517205)) 2) &&& 3689348814741910323)) 4)) &&& 1085102592571150095))]) C dJ13_bitCount_95d88_33 rfl (by decide) rfl ?_
  refine g_lload_n (i := 0) C dJ13_bitCount_95d88_34 rfl rfl ?_
  refine g_lload_n (i := 0) C dJ13_bitCount_95d88_35 rfl rfl ?_
  refine g_bipush (v := 8) C dJ13_bitCount_95d88_36 (by decide) ?_
  refine g_lushr (v := ushrL (((((x - ((ushrL x 1) &&& 6148914691236517205)) &&& 3689348814741910323) + ((ushrL (x - ((ushrL x 1) &&& 6148914691236517205)) 2) &&& 3689348814741910323)) + (ushrL (((x - ((ushrL x 1) &&& 6148914691236517205)) &&& 3689348814741910323) + ((ushrL (x - ((ushrL x 1) &&& 6148914691236517205)) 2) &&& 3689348814741910323)) 4)) &&& 1085102592571150095) 8) C dJ13_bitCount_95d88_38 rfl ?_
  refine g_ladd C dJ13_bitCount_95d88_39 ?_
  refine g_lstore_n (i := 0) (lv2 := [(0, .long ((((((x - ((ushrL x 1) &&& 6148914691236517205)) &&& 3689348814741910323) + ((ushrL (x - ((ushrL x 1) &&& 6148914691236517205)) 2) &&& 3689348814741910323)) + (ushrL (((x - ((ushrL x 1) &&& 6148914691236517205)) &&& 3689348814741910323) + ((ushrL (x - ((ushrL x 1) &&& 6148914691236517205)) 2) &&& 3689348814741910323)) 4)) &&& 1085102592571150095) + (ushrL (((((x - ((ushrL x 1) &&& 6148914691236517205)) &&& 3689348814741910323) + ((ushrL (x - ((ushrL x 1) &&& 6148914691236517205)) 2) &&& 3689348814741910323)) + (ushrL (((x - ((ushrL x 1) &&& 6148914691236517205)) &&& 3689348814741910323) + ((ushrL (x - ((ushrL x 1) &&& 6148914691236517205)) 2) &&& 3689348814741910323)) 4)) &&& 1085102592571150095) 8)))]) C dJ13_bitCount_95d88_40 rfl (by decide) rfl ?_
  refine g_lload_n (i := 0) C dJ13_bitCount_95d88_41 rfl rfl ?_
  refine g_lload_n (i := 0) C dJ13_bitCount_95d88_42 rfl rfl ?_
  refine g_bipush (v := 16) C dJ13_bitCount_95d88_43 (by decide) ?_
  refine g_lushr (v := ushrL ((((((x - ((ushrL x 1) &&& 6148914691236517205)) &&& 3689348814741910323) + ((ushrL (x - ((ushrL x 1) &&& 6148914691236517205)) 2) &&& 3689348814741910323)) + (ushrL (((x - ((ushrL x 1) &&& 6148914691236517205)) &&& 3689348814741910323) + ((ushrL (x - ((ushrL x 1) &&& 6148914691236517205)) 2) &&& 3689348814741910323)) 4)) &&& 1085102592571150095) + (ushrL (((((x - ((ushrL x 1) &&& 6148914691236517205)) &&& 3689348814741910323) + ((ushrL (x - ((ushrL x 1) &&& 6148914691236517205)) 2) &&& 3689348814741910323)) + (ushrL (((x - ((ushrL x 1) &&& 6148914691236517205)) &&& 3689348814741910323) + ((ushrL (x - ((ushrL x 1) &&& 6148914691236517205)) 2) &&& 3689348814741910323)) 4)) &&& 1085102592571150095) 8)) 16) C dJ13_bitCount_95d88_45 rfl ?_
  refine g_ladd C dJ13_bitCount_95d88_46 ?_
  refine g_lstore_n (i := 0) (lv2 := [(0, .long (((((((x - ((ushrL x 1) &&& 6148914691236517205)) &&& 3689348814741910323) + ((ushrL (x - ((ushrL x 1) &&& 6148914691236517205)) 2) &&& 3689348814741910323)) + (ushrL (((x - ((ushrL x 1) &&& 6148914691236517205)) &&& 3689348814741910323) + ((ushrL (x - ((ushrL x 1) &&& 6148914691236517205)) 2) &&& 3689348814741910323)) 4)) &&& 1085102592571150095) + (ushrL (((((x - ((ushrL x 1) &&& 6148914691236517205)) &&& 3689348814741910323) + ((ushrL (x - ((ushrL x 1) &&& 6148914691236517205)) 2) &&& 3689348814741910323)) + (ushrL (((x - ((ushrL x 1) &&& 6148914691236517205)) &&& 3689348814741910323) + ((ushrL (x - ((ushrL x 1) &&& 6148914691236517205)) 2) &&& 3689348814741910323)) 4)) &&& 1085102592571150095) 8)) + (ushrL ((((((x - ((ushrL x 1) &&& 6148914691236517205)) &&& 3689348814741910323) + ((ushrL (x - ((ushrL x 1) &&& 6148914691236517205)) 2) &&& 3689348814741910323)) + (ushrL (((x - ((ushrL x 1) &&& 6148914691236517205)) &&& 3689348814741910323) + ((ushrL (x - ((ushrL x 1) &&& 6148914691236517205)) 2) &&& 3689348814741910323)) 4)) &&& 1085102592571150095) + (ushrL (((((x - ((ushrL x 1) &&& 6148914691236517205)) &&& 3689348814741910323) + ((ushrL (x - ((ushrL x 1) &&& 6148914691236517205)) 2) &&& 3689348814741910323)) + (ushrL (((x - ((ushrL x 1) &&& 6148914691236517205)) &&& 3689348814741910323) + ((ushrL (x - ((ushrL x 1) &&& 6148914691236517205)) 2) &&& 3689348814741910323)) 4)) &&& 1085102592571150095) 8)) 16)))]) C dJ13_bitCount_95d88_47 rfl (by decide) rfl ?_
  refine g_lload_n (i := 0) C dJ13_bitCount_95d88_48 rfl rfl ?_
  refine g_lload_n (i := 0) C dJ13_bitCount_95d88_49 rfl rfl ?_
  refine g_bipush (v := 32) C dJ13_bitCount_95d88_50 (by decide) ?_
  refine g_lushr (v := ushrL (((((((x - ((ushrL x 1) &&& 6148914691236517205)) &&& 3689348814741910323) + ((ushrL (x - ((ushrL x 1) &&& 6148914691236517205)) 2) &&& 3689348814741910323)) + (ushrL (((x - ((ushrL x 1) &&& 6148914691236517205)) &&& 3689348814741910323) + ((ushrL (x - ((ushrL x 1) &&& 6148914691236517205)) 2) &&& 3689348814741910323)) 4)) &&& 1085102592571150095) + (ushrL (((((x - ((ushrL x 1) &&& 6148914691236517205)) &&& 3689348814741910323) + ((ushrL (x - ((ushrL x 1) &&& 6148914691236517205)) 2) &&& 3689348814741910323)) + (ushrL (((x - ((ushrL x 1) &&& 6148914691236517205)) &&& 3689348814741910323) + ((ushrL (x - ((ushrL x 1) &&& 6148914691236517205)) 2) &&& 3689348814741910323)) 4)) &&& 1085102592571150095) 8)) + (ushrL ((((((x - ((ushrL x 1) &&& 6148914691236517205)) &&& 3689348814741910323) + ((ushrL (x - ((ushrL x 1) &&& 6148914691236517205)) 2) &&& 3689348814741910323)) + (ushrL (((x - ((ushrL x 1) &&& 6148914691236517205)) &&& 3689348814741910323) + ((ushrL (x - ((ushrL x 1) &&& 6148914691236517205)) 2) &&& 3689348814741910323)) 4)) &&& 1085102592571150095) + (ushrL (((((x - ((ushrL x 1) &&& 6148914691236517205)) &&& 3689348814741910323) + ((ushrL (x - ((ushrL x 1) &&& 6148914691236517205)) 2) &&& 3689348814741910323)) + (ushrL (((x - ((ushrL x 1) &&& 6148914691236517205)) &&& 3689348814741910323) + ((ushrL (x - ((ushrL x 1) &&& 6148914691236517205)) 2) &&& 3689348814741910323)) 4)) &&& 1085102592571150095) 8)) 16)) 32) C dJ13_bitCount_95d88_52 rfl ?_
  refine g_ladd C dJ13_bitCount_95d88_53 ?_
  refine g_lstore_n (i := 0) (lv2 := [(0, .long ((((((((x - ((ushrL x 1) &&& 6148914691236517205)) &&& 3689348814741910323) + ((ushrL (x - ((ushrL x 1) &&& 6148914691236517205)) 2) &&& 3689348814741910323)) + (ushrL (((x - ((ushrL x 1) &&& 6148914691236517205)) &&& 3689348814741910323) + ((ushrL (x - ((ushrL x 1) &&& 6148914691236517205)) 2) &&& 3689348814741910323)) 4)) &&& 1085102592571150095) + (ushrL (((((x - ((ushrL x 1) &&& 6148914691236517205)) &&& 3689348814741910323) + ((ushrL (x - ((ushrL x 1) &&& 6148914691236517205)) 2) &&& 3689348814741910323)) + (ushrL (((x - ((ushrL x 1) &&& 6148914691236517205)) &&& 3689348814741910323) + ((ushrL (x - ((ushrL x 1) &&& 6148914691236517205)) 2) &&& 3689348814741910323)) 4)) &&& 1085102592571150095) 8)) + (ushrL ((((((x - ((ushrL x 1) &&& 6148914691236517205)) &&& 3689348814741910323) + ((ushrL (x - ((ushrL x 1) &&& 6148914691236517205)) 2) &&& 3689348814741910323)) + (ushrL (((x - ((ushrL x 1) &&& 6148914691236517205)) &&& 3689348814741910323) + ((ushrL (x - ((ushrL x 1) &&& 6148914691236517205)) 2) &&& 3689348814741910323)) 4)) &&& 1085102592571150095) + (ushrL (((((x - ((ushrL x 1) &&& 6148914691236517205)) &&& 3689348814741910323) + ((ushrL (x - ((ushrL x 1) &&& 6148914691236517205)) 2) &&& 3689348814741910323)) + (ushrL (((x - ((ushrL x 1) &&& 6148914691236517205)) &&& 3689348814741910323) + ((ushrL (x - ((ushrL x 1) &&& 6148914691236517205)) 2) &&& 3689348814741910323)) 4)) &&& 1085102592571150095) 8)) 16)) + (ushrL (((((((x - ((ushrL x 1) &&& 6148914691236517205)) &&& 3689348814741910323) + ((ushrL (x - ((ushrL x 1) &&& 6148914691236517205)) 2) &&& 3689348814741910323)) + (ushrL (((x - ((ushrL x 1) &&& 6148914691236517205)) &&& 3689348814741910323) + ((ushrL (x - ((ushrL x 1) &&& 6148914691236517205)) 2) &&& 3689348814741910323)) 4)) &&& 1085102592571150095) + (ushrL (((((x - ((ushrL x 1) &&& 6148914691236517205)) &&& 3689348814741910323) + ((ushrL (x - ((ushrL x 1) &&& 6148914691236517205)) 2) &&& 3689348814741910323)) + (ushrL (((x - ((ushrL x 1) &&& 6148914691236517205)) &&& 3689348814741910323) + ((ushrL (x - ((ushrL x 1) &&& 6148914691236517205)) 2) &&& 3689348814741910323)) 4)) &&& 1085102592571150095) 8)) + (ushrL ((((((x - ((ushrL x 1) &&& 6148914691236517205)) &&& 3689348814741910323) + ((ushrL (x - ((ushrL x 1) &&& 6148914691236517205)) 2) &&& 3689348814741910323)) + (ushrL (((x - ((ushrL x 1) &&& 6148914691236517205)) &&& 3689348814741910323) + ((ushrL (x - ((ushrL x 1) &&& 6148914691236517205)) 2) &&& 3689348814741910323)) 4)) &&& 1085102592571150095) + (ushrL (((((x - ((ushrL x 1) &&& 6148914691236517205)) &&& 3689348814741910323) + ((ushrL (x - ((ushrL x 1) &&& 6148914691236517205)) 2) &&& 3689348814741910323)) + (ushrL (((x - ((ushrL x 1) &&& 6148914691236517205)) &&& 3689348814741910323) + ((ushrL (x - ((ushrL x 1) &&& 6148914691236517205)) 2) &&& 3689348814741910323)) 4)) &&& 1085102592571150095) 8)) 16)) 32)))]) C dJ13_bitCount_95d88_54 rfl (by decide) rfl ?_
  refine g_lload_n (i := 0) C dJ13_bitCount_95d88_55 rfl rfl ?_
  refine g_l2i (v := Int64.toInt32 ((((((((x - ((ushrL x 1) &&& 6148914691236517205)) &&& 3689348814741910323) + ((ushrL (x - ((ushrL x 1) &&& 6148914691236517205)) 2) &&& 3689348814741910323)) + (ushrL (((x - ((ushrL x 1) &&& 6148914691236517205)) &&& 3689348814741910323) + ((ushrL (x - ((ushrL x 1) &&& 6148914691236517205)) 2) &&& 3689348814741910323)) 4)) &&& 1085102592571150095) + (ushrL (((((x - ((ushrL x 1) &&& 6148914691236517205)) &&& 3689348814741910323) + ((ushrL (x - ((ushrL x 1) &&& 6148914691236517205)) 2) &&& 3689348814741910323)) + (ushrL (((x - ((ushrL x 1) &&& 6148914691236517205)) &&& 3689348814741910323) + ((ushrL (x - ((ushrL x 1) &&& 6148914691236517205)) 2) &&& 3689348814741910323)) 4)) &&& 1085102592571150095) 8)) + (ushrL ((((((x - ((ushrL x 1) &&& 6148914691236517205)) &&& 3689348814741910323) + ((ushrL (x - ((ushrL x 1) &&& 6148914691236517205)) 2) &&& 3689348814741910323)) + (ushrL (((x - ((ushrL x 1) &&& 6148914691236517205)) &&& 3689348814741910323) + ((ushrL (x - ((ushrL x 1) &&& 6148914691236517205)) 2) &&& 3689348814741910323)) 4)) &&& 1085102592571150095) + (ushrL (((((x - ((ushrL x 1) &&& 6148914691236517205)) &&& 3689348814741910323) + ((ushrL (x - ((ushrL x 1) &&& 6148914691236517205)) 2) &&& 3689348814741910323)) + (ushrL (((x - ((ushrL x 1) &&& 6148914691236517205)) &&& 3689348814741910323) + ((ushrL (x - ((ushrL x 1) &&& 6148914691236517205)) 2) &&& 3689348814741910323)) 4)) &&& 1085102592571150095) 8)) 16)) + (ushrL (((((((x - ((ushrL x 1) &&& 6148914691236517205)) &&& 3689348814741910323) + ((ushrL (x - ((ushrL x 1) &&& 6148914691236517205)) 2) &&& 3689348814741910323)) + (ushrL (((x - ((ushrL x 1) &&& 6148914691236517205)) &&& 3689348814741910323) + ((ushrL (x - ((ushrL x 1) &&& 6148914691236517205)) 2) &&& 3689348814741910323)) 4)) &&& 1085102592571150095) + (ushrL (((((x - ((ushrL x 1) &&& 6148914691236517205)) &&& 3689348814741910323) + ((ushrL (x - ((ushrL x 1) &&& 6148914691236517205)) 2) &&& 3689348814741910323)) + (ushrL (((x - ((ushrL x 1) &&& 6148914691236517205)) &&& 3689348814741910323) + ((ushrL (x - ((ushrL x 1) &&& 6148914691236517205)) 2) &&& 3689348814741910323)) 4)) &&& 1085102592571150095) 8)) + (ushrL ((((((x - ((ushrL x 1) &&& 6148914691236517205)) &&& 3689348814741910323) + ((ushrL (x - ((ushrL x 1) &&& 6148914691236517205)) 2) &&& 3689348814741910323)) + (ushrL (((x - ((ushrL x 1) &&& 6148914691236517205)) &&& 3689348814741910323) + ((ushrL (x - ((ushrL x 1) &&& 6148914691236517205)) 2) &&& 3689348814741910323)) 4)) &&& 1085102592571150095) + (ushrL (((((x - ((ushrL x 1) &&& 6148914691236517205)) &&& 3689348814741910323) + ((ushrL (x - ((ushrL x 1) &&& 6148914691236517205)) 2) &&& 3689348814741910323)) + (ushrL (((x - ((ushrL x 1) &&& 6148914691236517205)) &&& 3689348814741910323) + ((ushrL (x - ((ushrL x 1) &&& 6148914691236517205)) 2) &&& 3689348814741910323)) 4)) &&& 1085102592571150095) 8)) 16)) 32))) C dJ13_bitCount_95d88_56 rfl ?_
  refine g_bipush (v := 127) C dJ13_bitCount_95d88_57 (by decide) ?_
  refine g_iand C dJ13_bitCount_95d88_59 ?_
  exact hR _ _ _ _ () dJ13_bitCount_95d88_60 (rfl) (rfl)

set_option maxHeartbeats 600000 in
set_option maxRecDepth 100000 in
theorem kJ6_bitCount_0f7a4 (K : KT) (Wd : va_W) (x : Int32) : ∀ lau : Launch, Con lau yJ6_bitCount_0f7a4 cJ6_bitCount_0f7a4 1 (some .int) 0 0 K Wd (fun _ : Unit => Wd) [.int x] (some (.int (bcI x))) := by
  refine conI (by decide) (Nat.le_of_ble_eq_true rfl) (fun E C hR => ?_)
  show G E K 0 0 Wd [(0, .int x)] 0 []
  refine g_iload_n (i := 0) C dJ6_bitCount_0f7a4_0 rfl rfl ?_
  refine g_iload_n (i := 0) C dJ6_bitCount_0f7a4_1 rfl rfl ?_
  refine g_iconst (v := 1) C dJ6_bitCount_0f7a4_2 (by decide) ?_
  refine g_iushr (v := ushrI x 1) C dJ6_bitCount_0f7a4_3 rfl ?_
  refine g_ldcw (v := 1431655765) C dJ6_bitCount_0f7a4_4 kc_J6_265 ?_
  refine g_iand C dJ6_bitCount_0f7a4_7 ?_
  refine g_isub C dJ6_bitCount_0f7a4_8 ?_
  refine g_istore_n (i := 0) (lv2 := [(0, .int (x - ((ushrI x 1) &&& 1431655765)))]) C dJ6_bitCount_0f7a4_9 rfl (by decide) rfl ?_
  refine g_iload_n (i := 0) C dJ6_bitCount_0f7a4_10 rfl rfl ?_
  refine g_ldcw (v := 858993459) C dJ6_bitCount_0f7a4_11 kc_J6_266 ?_
  refine g_iand C dJ6_bitCount_0f7a4_14 ?_
  refine g_iload_n (i := 0) C dJ6_bitCount_0f7a4_15 rfl rfl ?_
  refine g_iconst (v := 2) C dJ6_bitCount_0f7a4_16 (by decide) ?_
  refine g_iushr (v := ushrI (x - ((ushrI x 1) &&& 1431655765)) 2) C dJ6_bitCount_0f7a4_17 rfl ?_
  refine g_ldcw (v := 858993459) C dJ6_bitCount_0f7a4_18 kc_J6_266 ?_
  refine g_iand C dJ6_bitCount_0f7a4_21 ?_
  refine g_iadd C dJ6_bitCount_0f7a4_22 ?_
  refine g_istore_n (i := 0) (lv2 := [(0, .int (((x - ((ushrI x 1) &&& 1431655765)) &&& 858993459) + ((ushrI (x - ((ushrI x 1) &&& 1431655765)) 2) &&& 858993459)))]) C dJ6_bitCount_0f7a4_23 rfl (by decide) rfl ?_
  refine g_iload_n (i := 0) C dJ6_bitCount_0f7a4_24 rfl rfl ?_
  refine g_iload_n (i := 0) C dJ6_bitCount_0f7a4_25 rfl rfl ?_
  refine g_iconst (v := 4) C dJ6_bitCount_0f7a4_26 (by decide) ?_
  refine g_iushr (v := ushrI (((x - ((ushrI x 1) &&& 1431655765)) &&& 858993459) + ((ushrI (x - ((ushrI x 1) &&& 1431655765)) 2) &&& 858993459)) 4) C dJ6_bitCount_0f7a4_27 rfl ?_
  refine g_iadd C dJ6_bitCount_0f7a4_28 ?_
  refine g_ldcw (v := 252645135) C dJ6_bitCount_0f7a4_29 kc_J6_267 ?_
  refine g_iand C dJ6_bitCount_0f7a4_32 ?_
  refine g_istore_n (i := 0) (lv2 := [(0, .int (((((x - ((ushrI x 1) &&& 1431655765)) &&& 858993459) + ((ushrI (x - ((ushrI x 1) &&& 1431655765)) 2) &&& 858993459)) + (ushrI (((x - ((ushrI x 1) &&& 1431655765)) &&& 858993459) + ((ushrI (x - ((ushrI x 1) &&& 1431655765)) 2) &&& 858993459)) 4)) &&& 252645135))]) C dJ6_bitCount_0f7a4_33 rfl (by decide) rfl ?_
  refine g_iload_n (i := 0) C dJ6_bitCount_0f7a4_34 rfl rfl ?_
  refine g_iload_n (i := 0) C dJ6_bitCount_0f7a4_35 rfl rfl ?_
  refine g_bipush (v := 8) C dJ6_bitCount_0f7a4_36 (by decide) ?_
  refine g_iushr (v := ushrI (((((x - ((ushrI x 1) &&& 1431655765)) &&& 858993459) + ((ushrI (x - ((ushrI x 1) &&& 1431655765)) 2) &&& 858993459)) + (ushrI (((x - ((ushrI x 1) &&& 1431655765)) &&& 858993459) + ((ushrI (x - ((ushrI x 1) &&& 1431655765)) 2) &&& 858993459)) 4)) &&& 252645135) 8) C dJ6_bitCount_0f7a4_38 rfl ?_
  refine g_iadd C dJ6_bitCount_0f7a4_39 ?_
  refine g_istore_n (i := 0) (lv2 := [(0, .int ((((((x - ((ushrI x 1) &&& 1431655765)) &&& 858993459) + ((ushrI (x - ((ushrI x 1) &&& 1431655765)) 2) &&& 858993459)) + (ushrI (((x - ((ushrI x 1) &&& 1431655765)) &&& 858993459) + ((ushrI (x - ((ushrI x 1) &&& 1431655765)) 2) &&& 858993459)) 4)) &&& 252645135) + (ushrI (((((x - ((ushrI x 1) &&& 1431655765)) &&& 858993459) + ((ushrI (x - ((ushrI x 1) &&& 1431655765)) 2) &&& 858993459)) + (ushrI (((x - ((ushrI x 1) &&& 1431655765)) &&& 858993459) + ((ushrI (x - ((ushrI x 1) &&& 1431655765)) 2) &&& 858993459)) 4)) &&& 252645135) 8)))]) C dJ6_bitCount_0f7a4_40 rfl (by decide) rfl ?_
  refine g_iload_n (i := 0) C dJ6_bitCount_0f7a4_41 rfl rfl ?_
  refine g_iload_n (i := 0) C dJ6_bitCount_0f7a4_42 rfl rfl ?_
  refine g_bipush (v := 16) C dJ6_bitCount_0f7a4_43 (by decide) ?_
  refine g_iushr (v := ushrI ((((((x - ((ushrI x 1) &&& 1431655765)) &&& 858993459) + ((ushrI (x - ((ushrI x 1) &&& 1431655765)) 2) &&& 858993459)) + (ushrI (((x - ((ushrI x 1) &&& 1431655765)) &&& 858993459) + ((ushrI (x - ((ushrI x 1) &&& 1431655765)) 2) &&& 858993459)) 4)) &&& 252645135) + (ushrI (((((x - ((ushrI x 1) &&& 1431655765)) &&& 858993459) + ((ushrI (x - ((ushrI x 1) &&& 1431655765)) 2) &&& 858993459)) + (ushrI (((x - ((ushrI x 1) &&& 1431655765)) &&& 858993459) + ((ushrI (x - ((ushrI x 1) &&& 1431655765)) 2) &&& 858993459)) 4)) &&& 252645135) 8)) 16) C dJ6_bitCount_0f7a4_45 rfl ?_
  refine g_iadd C dJ6_bitCount_0f7a4_46 ?_
  refine g_istore_n (i := 0) (lv2 := [(0, .int (((((((x - ((ushrI x 1) &&& 1431655765)) &&& 858993459) + ((ushrI (x - ((ushrI x 1) &&& 1431655765)) 2) &&& 858993459)) + (ushrI (((x - ((ushrI x 1) &&& 1431655765)) &&& 858993459) + ((ushrI (x - ((ushrI x 1) &&& 1431655765)) 2) &&& 858993459)) 4)) &&& 252645135) + (ushrI (((((x - ((ushrI x 1) &&& 1431655765)) &&& 858993459) + ((ushrI (x - ((ushrI x 1) &&& 1431655765)) 2) &&& 858993459)) + (ushrI (((x - ((ushrI x 1) &&& 1431655765)) &&& 858993459) + ((ushrI (x - ((ushrI x 1) &&& 1431655765)) 2) &&& 858993459)) 4)) &&& 252645135) 8)) + (ushrI ((((((x - ((ushrI x 1) &&& 1431655765)) &&& 858993459) + ((ushrI (x - ((ushrI x 1) &&& 1431655765)) 2) &&& 858993459)) + (ushrI (((x - ((ushrI x 1) &&& 1431655765)) &&& 858993459) + ((ushrI (x - ((ushrI x 1) &&& 1431655765)) 2) &&& 858993459)) 4)) &&& 252645135) + (ushrI (((((x - ((ushrI x 1) &&& 1431655765)) &&& 858993459) + ((ushrI (x - ((ushrI x 1) &&& 1431655765)) 2) &&& 858993459)) + (ushrI (((x - ((ushrI x 1) &&& 1431655765)) &&& 858993459) + ((ushrI (x - ((ushrI x 1) &&& 1431655765)) 2) &&& 858993459)) 4)) &&& 252645135) 8)) 16)))]) C dJ6_bitCount_0f7a4_47 rfl (by decide) rfl ?_
  refine g_iload_n (i := 0) C dJ6_bitCount_0f7a4_48 rfl rfl ?_
  refine g_bipush (v := 63) C dJ6_bitCount_0f7a4_49 (by decide) ?_
  refine g_iand C dJ6_bitCount_0f7a4_51 ?_
  exact hR _ _ _ _ () dJ6_bitCount_0f7a4_52 (rfl) (rfl)

set_option maxHeartbeats 600000 in
set_option maxRecDepth 100000 in
theorem kX1_isPowerOfTwo (K : KT) (Wd : va_W) (x : Int64) : ∀ lau : Launch, Con lau yX1_isPowerOfTwo cX1_isPowerOfTwo 2 (some .boolean) 1 21 K Wd (fun _ : Unit => Wd) [.long x] (some (.int (bz (isP2 x)))) := by
  refine conZ (by decide) (Nat.le_of_ble_eq_true rfl) (fun E C hR => ?_)
  show G E K 0 0 Wd [(0, .long x)] 0 []
  refine g_lload_n (i := 0) C dX1_isPowerOfTwo_0 rfl rfl ?_
  refine g_mabsL C dX1_isPowerOfTwo_1 ln_X1_164 ma_mabsL_s it_J9 ma_mabsL_c (Nat.le_of_ble_eq_true rfl) (Nat.le_of_ble_eq_true rfl) (Nat.le_refl _) (Nat.le_refl _) ?_
  refine g_callS (av := [.long (if 0 < x then x else -x)]) C dX1_isPowerOfTwo_4 ln_X1_170 mf_J13_bitCount_95d88 (kJ13_bitCount_95d88 K Wd (if 0 < x then x else -x)) rfl rfl (Nat.le_of_ble_eq_true rfl) ⟨Nat.le_of_ble_eq_true rfl, Nat.le_of_ble_eq_true rfl⟩ ⟨Nat.zero_le _, Nat.zero_le _⟩ (fun _ => ?_)
  refine g_iconst (v := 1) C dX1_isPowerOfTwo_7 (by decide) ?_
  refine g_dia_icmp_ne (tgt := 15) C dX1_isPowerOfTwo_8 dX1_isPowerOfTwo_11 dX1_isPowerOfTwo_12 dX1_isPowerOfTwo_15 (by decide) (by decide) trivial ?_
  exact hR _ _ _ _ () dX1_isPowerOfTwo_16 (rfl) (rfl)

set_option maxHeartbeats 600000 in
set_option maxRecDepth 100000 in
theorem kX1_halvings (K : KT) (Wd : va_W) (x : Int64) : ∀ lau : Launch, Con lau yX1_halvings cX1_halvings 2 (some .int) 1 21 K Wd (fun _ : Unit => Wd) [.long x] (some (.int (halv x))) := by
  refine conI (by decide) (Nat.le_of_ble_eq_true rfl) (fun E C hR => ?_)
  show G E K 0 0 Wd [(0, .long x)] 0 []
  refine g_lload_n (i := 0) C dX1_halvings_0 rfl rfl ?_
  refine g_lload_n (i := 0) C dX1_halvings_1 rfl rfl ?_
  refine g_lneg C dX1_halvings_2 ?_
  refine g_land C dX1_halvings_3 ?_
  refine g_lconst (v := 1) C dX1_halvings_4 (by decide) ?_
  refine g_lsub C dX1_halvings_5 ?_
  refine g_callS (av := [.long ((x &&& (-x)) - 1)]) C dX1_halvings_6 ln_X1_170 mf_J13_bitCount_95d88 (kJ13_bitCount_95d88 K Wd ((x &&& (-x)) - 1)) rfl rfl (Nat.le_of_ble_eq_true rfl) ⟨Nat.le_of_ble_eq_true rfl, Nat.le_of_ble_eq_true rfl⟩ ⟨Nat.zero_le _, Nat.zero_le _⟩ (fun _ => ?_)
  exact hR _ _ _ _ () dX1_halvings_9 (rfl) (rfl)

set_option maxHeartbeats 600000 in
set_option maxRecDepth 100000 in
theorem kX1_leastBelow (K : KT) (Wd : va_W) (x : Int64) (y : Int32) : ∀ lau : Launch, Con lau yX1_leastBelow cX1_leastBelow 3 (some .int) 2 42 K Wd (fun _ : Unit => Wd) [.long x, .int y] (some (.int (lBel x y))) := by
  refine conI (by decide) (Nat.le_of_ble_eq_true rfl) (fun E C hR => ?_)
  show G E K 0 0 Wd [(0, .long x), (2, .int y)] 0 []
  refine g_iconst (v := 0) C dX1_leastBelow_0 (by decide) ?_
  refine g_iload_n (i := 2) C dX1_leastBelow_1 rfl rfl ?_
  refine g_lload_n (i := 0) C dX1_leastBelow_2 rfl rfl ?_
  refine g_callS (av := [.long x]) C dX1_leastBelow_3 ln_X1_172 mf_X1_halvings (kX1_halvings K Wd x) rfl rfl (Nat.le_of_ble_eq_true rfl) ⟨Nat.le_of_ble_eq_true rfl, Nat.le_of_ble_eq_true rfl⟩ ⟨Nat.zero_le _, Nat.zero_le _⟩ (fun _ => ?_)
  refine g_isub C dX1_leastBelow_6 ?_
  refine g_mmax C dX1_leastBelow_7 ln_X1_175 ma_mmax_s it_J9 ma_mmax_c (Nat.le_of_ble_eq_true rfl) (Nat.le_of_ble_eq_true rfl) (Nat.le_refl _) (Nat.le_refl _) ?_
  exact hR _ _ _ _ () dX1_leastBelow_10 (rfl) (rfl)

set_option maxHeartbeats 600000 in
set_option maxRecDepth 100000 in
theorem kX1_leastAbove (K : KT) (Wd : va_W) (x : Int64) (y : Int32) : ∀ lau : Launch, Con lau yX1_leastAbove cX1_leastAbove 3 (some .int) 3 64 K Wd (fun _ : Unit => Wd) [.long x, .int y] (some (.int (lAbo x y))) := by
  refine conI (by decide) (Nat.le_of_ble_eq_true rfl) (fun E C hR => ?_)
  show G E K 0 0 Wd [(0, .long x), (2, .int y)] 0 []
  refine g_lload_n (i := 0) C dX1_leastAbove_0 rfl rfl ?_
  refine g_iload_n (i := 2) C dX1_leastAbove_1 rfl rfl ?_
  refine g_lload_n (i := 0) C dX1_leastAbove_2 rfl rfl ?_
  refine g_iload_n (i := 2) C dX1_leastAbove_3 rfl rfl ?_
  refine g_callS (av := [.long x, .int y]) C dX1_leastAbove_4 ln_X1_67 mf_X1_leastBelow (kX1_leastBelow K Wd x y) rfl rfl (Nat.le_of_ble_eq_true rfl) ⟨Nat.le_of_ble_eq_true rfl, Nat.le_of_ble_eq_true rfl⟩ ⟨Nat.zero_le _, Nat.zero_le _⟩ (fun _ => ?_)
  refine g_isub C dX1_leastAbove_7 ?_
  refine g_lshr (v := shrL x (y - (lBel x y))) C dX1_leastAbove_8 rfl ?_
  refine g_l2i (v := Int64.toInt32 (shrL x (y - (lBel x y)))) C dX1_leastAbove_9 rfl ?_
  exact hR _ _ _ _ () dX1_leastAbove_10 (rfl) (rfl)

set_option maxHeartbeats 600000 in
set_option maxRecDepth 100000 in
theorem kX1_factorOf (K : KT) (Wd : va_W) (x : Int64) (y : Int32) : ∀ lau : Launch, Con lau yX1_factorOf cX1_factorOf 6 (some .long) 3 64 K Wd (fun _ : Unit => Wd) [.long x, .int y] (some (.long (facO x y))) := by
  refine conL (by decide) (Nat.le_of_ble_eq_true rfl) (fun E C hR => ?_)
  show G E K 0 0 Wd [(0, .long x), (2, .int y)] 0 []
  refine g_lload_n (i := 0) C dX1_factorOf_0 rfl rfl ?_
  refine g_iload_n (i := 2) C dX1_factorOf_1 rfl rfl ?_
  refine g_callS (av := [.long x, .int y]) C dX1_factorOf_2 ln_X1_67 mf_X1_leastBelow (kX1_leastBelow K Wd x y) rfl rfl (Nat.le_of_ble_eq_true rfl) ⟨Nat.le_of_ble_eq_true rfl, Nat.le_of_ble_eq_true rfl⟩ ⟨Nat.zero_le _, Nat.zero_le _⟩ (fun _ => ?_)
  refine g_istore_n (i := 3) (lv2 := [(0, .long x), (2, .int y), (3, .int (lBel x y))]) C dX1_factorOf_5 rfl (by decide) rfl ?_
  refine g_lload_n (i := 0) C dX1_factorOf_6 rfl rfl ?_
  refine g_iload_n (i := 2) C dX1_factorOf_7 rfl rfl ?_
  refine g_iload_n (i := 3) C dX1_factorOf_8 rfl rfl ?_
  refine g_isub C dX1_factorOf_9 ?_
  refine g_lshr (v := shrL x (y - (lBel x y))) C dX1_factorOf_10 rfl ?_
  refine g_lstore (lv2 := [(0, .long x), (2, .int y), (3, .int (lBel x y)), (4, .long (shrL x (y - (lBel x y))))]) C dX1_factorOf_11 (by decide) rfl ?_
  refine g_iload_n (i := 3) C dX1_factorOf_13 rfl rfl ?_
  refine g_bipush (v := 20) C dX1_factorOf_14 (by decide) ?_
  refine g_icmp_gt (tgt := 37) C dX1_factorOf_16 (by decide) (fun c16_1 => ?_) (fun c16_1 => ?_)
  · skip
    refine g_ldc2 (v := (-9223372036854775808)) C dX1_factorOf_37 kc_X1_161 ?_
    exact hR _ _ _ _ () dX1_factorOf_40 (by simp [facO, c16_1]) (rfl)
  · skip
    refine g_lload C dX1_factorOf_19 rfl ?_
    refine g_ldc2 (v := (-1000000000)) C dX1_factorOf_21 kc_X1_178 ?_
    refine g_lcmp_lt (tgt := 37) C dX1_factorOf_24 dX1_factorOf_25 (by decide) (fun c24_2 => ?_) (fun c24_2 => ?_)
    · skip
      refine g_ldc2 (v := (-9223372036854775808)) C dX1_factorOf_37 kc_X1_161 ?_
      exact hR _ _ _ _ () dX1_factorOf_40 (by simp [facO, c16_1, c24_2]) (rfl)
    · skip
      refine g_lload C dX1_factorOf_28 rfl ?_
      refine g_ldc2 (v := 1000000000) C dX1_factorOf_30 kc_X1_180 ?_
      refine g_lcmp_le (tgt := 41) C dX1_factorOf_33 dX1_factorOf_34 (by decide) (fun c33_3 => ?_) (fun c33_3 => ?_)
      · skip
        refine g_lload C dX1_factorOf_41 rfl ?_
        refine g_bipush (v := 20) C dX1_factorOf_43 (by decide) ?_
        refine g_iload_n (i := 3) C dX1_factorOf_45 rfl rfl ?_
        refine g_isub C dX1_factorOf_46 ?_
        refine g_lshl (v := shlL (shrL x (y - (lBel x y))) (20 - (lBel x y))) C dX1_factorOf_47 rfl ?_
        exact hR _ _ _ _ () dX1_factorOf_48 (by simp [facO, c16_1, c24_2, c33_3]) (rfl)
      · skip
        refine g_ldc2 (v := (-9223372036854775808)) C dX1_factorOf_37 kc_X1_161 ?_
        exact hR _ _ _ _ () dX1_factorOf_40 (by simp [facO, c16_1, c24_2, c33_3]) (rfl)

set_option maxHeartbeats 600000 in
set_option maxRecDepth 100000 in
theorem kX1_factorProduct (K : KT) (Wd : va_W) (x : Int64) (y : Int64) : ∀ lau : Launch, Con lau yX1_factorProduct cX1_factorProduct 6 (some .long) 4 89 K Wd (fun _ : Unit => Wd) [.long x, .long y] (some (.long (facP x y))) := by
  refine conL (by decide) (Nat.le_of_ble_eq_true rfl) (fun E C hR => ?_)
  show G E K 0 0 Wd [(0, .long x), (2, .long y)] 0 []
  refine g_lload_n (i := 0) C dX1_factorProduct_0 rfl rfl ?_
  refine g_bipush (v := 20) C dX1_factorProduct_1 (by decide) ?_
  refine g_callS (av := [.long x, .int 20]) C dX1_factorProduct_3 ln_X1_63 mf_X1_leastAbove (kX1_leastAbove K Wd x 20) rfl rfl (Nat.le_of_ble_eq_true rfl) ⟨Nat.le_of_ble_eq_true rfl, Nat.le_of_ble_eq_true rfl⟩ ⟨Nat.zero_le _, Nat.zero_le _⟩ (fun _ => ?_)
  refine g_i2l (v := Int32.toInt64 (lAbo x 20)) C dX1_factorProduct_6 rfl ?_
  refine g_lload_n (i := 2) C dX1_factorProduct_7 rfl rfl ?_
  refine g_bipush (v := 20) C dX1_factorProduct_8 (by decide) ?_
  refine g_callS (av := [.long y, .int 20]) C dX1_factorProduct_10 ln_X1_63 mf_X1_leastAbove (kX1_leastAbove K Wd y 20) rfl rfl (Nat.le_of_ble_eq_true rfl) ⟨Nat.le_of_ble_eq_true rfl, Nat.le_of_ble_eq_true rfl⟩ ⟨Nat.zero_le _, Nat.zero_le _⟩ (fun _ => ?_)
  refine g_i2l (v := Int32.toInt64 (lAbo y 20)) C dX1_factorProduct_13 rfl ?_
  refine g_lmul C dX1_factorProduct_14 ?_
  refine g_lstore (lv2 := [(0, .long x), (2, .long y), (4, .long ((Int32.toInt64 (lAbo x 20)) * (Int32.toInt64 (lAbo y 20))))]) C dX1_factorProduct_15 (by decide) rfl ?_
  refine g_lload C dX1_factorProduct_17 rfl ?_
  refine g_lload_n (i := 0) C dX1_factorProduct_19 rfl rfl ?_
  refine g_bipush (v := 20) C dX1_factorProduct_20 (by decide) ?_
  refine g_callS (av := [.long x, .int 20]) C dX1_factorProduct_22 ln_X1_67 mf_X1_leastBelow (kX1_leastBelow K Wd x 20) rfl rfl (Nat.le_of_ble_eq_true rfl) ⟨Nat.le_of_ble_eq_true rfl, Nat.le_of_ble_eq_true rfl⟩ ⟨Nat.zero_le _, Nat.zero_le _⟩ (fun _ => ?_)
  refine g_lload_n (i := 2) C dX1_factorProduct_25 rfl rfl ?_
  refine g_bipush (v := 20) C dX1_factorProduct_26 (by decide) ?_
  refine g_callS (av := [.long y, .int 20]) C dX1_factorProduct_28 ln_X1_67 mf_X1_leastBelow (kX1_leastBelow K Wd y 20) rfl rfl (Nat.le_of_ble_eq_true rfl) ⟨Nat.le_of_ble_eq_true rfl, Nat.le_of_ble_eq_true rfl⟩ ⟨Nat.zero_le _, Nat.zero_le _⟩ (fun _ => ?_)
  refine g_iadd C dX1_factorProduct_31 ?_
  refine g_callS (av := [.long ((Int32.toInt64 (lAbo x 20)) * (Int32.toInt64 (lAbo y 20))), .int ((lBel x 20) + (lBel y 20))]) C dX1_factorProduct_32 ln_X1_125 mf_X1_factorOf (kX1_factorOf K Wd ((Int32.toInt64 (lAbo x 20)) * (Int32.toInt64 (lAbo y 20))) ((lBel x 20) + (lBel y 20))) rfl rfl (Nat.le_of_ble_eq_true rfl) ⟨Nat.le_of_ble_eq_true rfl, Nat.le_of_ble_eq_true rfl⟩ ⟨Nat.zero_le _, Nat.zero_le _⟩ (fun _ => ?_)
  exact hR _ _ _ _ () dX1_factorProduct_35 (rfl) (rfl)

set_option maxHeartbeats 600000 in
set_option maxRecDepth 100000 in
theorem kX1_factorQuotient (K : KT) (Wd : va_W) (x : Int64) (y : Int64) : ∀ lau : Launch, Con lau yX1_factorQuotient cX1_factorQuotient 4 (some .long) 4 89 K Wd (fun _ : Unit => Wd) [.long x, .long y] (some (.long (facQ x y))) := by
  refine conL (by decide) (Nat.le_of_ble_eq_true rfl) (fun E C hR => ?_)
  show G E K 0 0 Wd [(0, .long x), (2, .long y)] 0 []
  refine g_lload_n (i := 2) C dX1_factorQuotient_0 rfl rfl ?_
  refine g_lconst (v := 0) C dX1_factorQuotient_1 (by decide) ?_
  refine g_lcmp_ge (tgt := 11) C dX1_factorQuotient_2 dX1_factorQuotient_3 (by decide) (fun c2_1 => ?_) (fun c2_1 => ?_)
  · skip
    refine g_lload_n (i := 0) C dX1_factorQuotient_11 rfl rfl ?_
    refine g_lload_n (i := 2) C dX1_factorQuotient_12 rfl rfl ?_
    refine g_callS (av := [.long y]) C dX1_factorQuotient_13 ln_X1_172 mf_X1_halvings (kX1_halvings K Wd y) rfl rfl (Nat.le_of_ble_eq_true rfl) ⟨Nat.le_of_ble_eq_true rfl, Nat.le_of_ble_eq_true rfl⟩ ⟨Nat.zero_le _, Nat.zero_le _⟩ (fun _ => ?_)
    refine g_callS (av := [.long x, .int (halv y)]) C dX1_factorQuotient_16 ln_X1_125 mf_X1_factorOf (kX1_factorOf K Wd x (halv y)) rfl rfl (Nat.le_of_ble_eq_true rfl) ⟨Nat.le_of_ble_eq_true rfl, Nat.le_of_ble_eq_true rfl⟩ ⟨Nat.zero_le _, Nat.zero_le _⟩ (fun _ => ?_)
    exact hR _ _ _ _ () dX1_factorQuotient_19 (by simp [facQ, c2_1]) (rfl)
  · skip
    refine g_lload_n (i := 0) C dX1_factorQuotient_6 rfl rfl ?_
    refine g_lneg C dX1_factorQuotient_7 ?_
    refine g_goto (tgt := 12) C dX1_factorQuotient_8 (by decide) ?_
    refine g_lload_n (i := 2) C dX1_factorQuotient_12 rfl rfl ?_
    refine g_callS (av := [.long y]) C dX1_factorQuotient_13 ln_X1_172 mf_X1_halvings (kX1_halvings K Wd y) rfl rfl (Nat.le_of_ble_eq_true rfl) ⟨Nat.le_of_ble_eq_true rfl, Nat.le_of_ble_eq_true rfl⟩ ⟨Nat.zero_le _, Nat.zero_le _⟩ (fun _ => ?_)
    refine g_callS (av := [.long (-x), .int (halv y)]) C dX1_factorQuotient_16 ln_X1_125 mf_X1_factorOf (kX1_factorOf K Wd (-x) (halv y)) rfl rfl (Nat.le_of_ble_eq_true rfl) ⟨Nat.le_of_ble_eq_true rfl, Nat.le_of_ble_eq_true rfl⟩ ⟨Nat.zero_le _, Nat.zero_le _⟩ (fun _ => ?_)
    exact hR _ _ _ _ () dX1_factorQuotient_19 (by simp [facQ, c2_1]) (rfl)
end
section
def bt (x : Int32) (i : Nat) : Bool := tb x (nI i)
def wst (b : Nat → Bool) (one : Int64) : Nat → Bool × Int64 × Int64
  | 0 => (true, one, 0)
  | i + 1 => ((wst b one i).1 && (b i == b 0), bif (wst b one i).1 && (b i == b 0) then (wst b one i).2.1 else (wst b one i).2.1 / 2, (wst b one i).2.2 + bif b i then (bif (wst b one i).1 && (b i == b 0) then (wst b one i).2.1 else (wst b one i).2.1 / 2) else -(bif (wst b one i).1 && (b i == b 0) then (wst b one i).2.1 else (wst b one i).2.1 / 2))
def wC (x : Int32) (n : Nat) : Int64 := (wst (bt x) 8388608 n).2.2
def wM (x : Int32) (n : Nat) : Int64 := (wst (bt x) 16777216 n).2.2
theorem nlt {a b : Nat} (h : ¬ nI a ≤ nI b) (ha : a < 2 ^ 31) (hb : b < 2 ^ 31) : b < a := Nat.lt_of_not_le (fun q => h (nI_le q hb))
theorem nle {a b : Nat} (h : nI a ≤ nI b) (ha : a < 2 ^ 31) (hb : b < 2 ^ 31) : a ≤ b := (nI_leI ha hb).mp h
theorem and1 {a b : Int32} (h : a.toBitVec.getLsbD 0 = b.toBitVec.getLsbD 0) : a &&& 1 = b &&& 1 := by
  apply Int32.toBitVec_inj.mp
  rw [Int32.toBitVec_and, Int32.toBitVec_and, show (1 : Int32).toBitVec = 1#32 from rfl]
  apply BitVec.eq_of_getLsbD_eq
  intro i hi
  rw [BitVec.getLsbD_and, BitVec.getLsbD_and, BitVec.getLsbD_one]
  by_cases h0 : i = 0
  · subst h0; rw [h]
  · simp [h0]
theorem s_32 : ∀ n, n < 32 → ((nI n).toBitVec.smod 32).toNat = n := by decide +kernel
theorem s_32u (i : Int32) : ((i.toUInt32 &&& Int32.toUInt32 31).toBitVec % 32).toNat = i.toBitVec.toNat % 32 := by
  rw [BitVec.toNat_umod, UInt32.toBitVec_and, BitVec.toNat_and, show (Int32.toUInt32 31).toBitVec.toNat = 2 ^ 5 - 1 from rfl, Nat.and_two_pow_sub_one_eq_mod]
  show i.toBitVec.toNat % 32 % 32 = i.toBitVec.toNat % 32
  omega
theorem shr_bit (x i : Int32) (j : Nat) (h : i.toBitVec.toNat % 32 + j < 32) : (x >>> (i &&& 31)).toBitVec.getLsbD j = x.toBitVec.getLsbD (i.toBitVec.toNat % 32 + j) := by
  have hj : i &&& 31 = nI (i.toBitVec.toNat % 32) := pk_and i 5 (by decide)
  have hlt : i.toBitVec.toNat % 32 < 32 := Nat.mod_lt _ (by decide)
  generalize hk : i.toBitVec.toNat % 32 = k at hj hlt h
  rw [hj, Int32.toBitVec_shiftRight, BitVec.sshiftRight', show ((nI k).toBitVec.smod 32).toNat = k from s_32 k hlt, BitVec.getLsbD_sshiftRight]
  simp [h]
  omega
theorem ushr_bit (x i : Int32) (j : Nat) : (ushrI x i).toBitVec.getLsbD j = x.toBitVec.getLsbD (i.toBitVec.toNat % 32 + j) := by
  show (x.toUInt32 >>> (i.toUInt32 &&& Int32.toUInt32 31)).toBitVec.getLsbD j = _
  rw [UInt32.toBitVec_shiftRight, BitVec.ushiftRight_eq', s_32u, BitVec.getLsbD_ushiftRight]
  rfl
theorem sbit (x i : Int32) : (x >>> (i &&& 31)) &&& 1 = ushrI x i &&& 1 := by
  apply and1
  rw [ushr_bit, shr_bit _ _ _ (by have := Nat.mod_lt i.toBitVec.toNat (show 0 < 32 by decide); omega)]
theorem and1b (x : Int32) : x &&& 1 = bz (decide (x &&& 1 = 1)) := by
  have h : (x &&& 1) = nI (x.toBitVec.toNat % 2 ^ 1) := pk_and x 1 (by decide)
  rw [h]
  have h2 : x.toBitVec.toNat % 2 ^ 1 < 2 := Nat.mod_lt _ (by decide)
  generalize x.toBitVec.toNat % 2 ^ 1 = k at h2
  match k, h2 with
  | 0, _ => decide
  | 1, _ => decide
theorem sbz (x i : Int32) : (x >>> (i &&& 31)) &&& 1 = bz (tb x i) := by
  rw [sbit, and1b]; rfl
theorem tbS (x i : Int32) : decide ((x >>> (i &&& 31)) &&& 1 = 1) = tb x i := by
  unfold tb; rw [sbit]
theorem tb0 (x : Int32) : decide (x &&& 1 = 1) = tb x 0 := by
  unfold tb
  rw [show x &&& 1 = ushrI x 0 &&& 1 from and1 (by rw [ushr_bit]; rfl)]
theorem wst_one {b : Nat → Bool} {one : Int64} : ∀ {i : Nat}, (wst b one i).1 = true → (wst b one i).2.1 = one
  | 0, _ => rfl
  | i + 1, h => by
    have h1 : ((wst b one i).1 && (b i == b 0)) = true := h
    have h2 : (wst b one i).1 = true := by revert h1; cases (wst b one i).1 <;> simp
    show (bif (wst b one i).1 && (b i == b 0) then (wst b one i).2.1 else (wst b one i).2.1 / 2) = one
    rw [h1]
    exact wst_one h2
theorem wst_s {b : Nat → Bool} {one : Int64} {i : Nat} {r : Bool} {v a : Int64} (h : wst b one i = (r, v, a)) {q t : Bool} (hq : (r && (b i == b 0)) = q) (ht : b i = t) : wst b one (i + 1) = (r && (b i == b 0), bif q then v else v / 2, a + bif t then (bif q then v else v / 2) else -(bif q then v else v / 2)) := by
  subst hq ht
  simp only [wst, h]
theorem wst_sM {b : Nat → Bool} {one : Int64} {i : Nat} {r : Bool} {v a : Int64} (h : wst b one i = (r, v, a)) {q t : Bool} (hq : (r && (b i == b 0)) = q) (ht : b i = t) : wst b one (i + 1) = (r && (b i == b 0), bif q then one else v / 2, a + bif t then (bif q then one else v / 2) else -(bif q then one else v / 2)) := by
  have h1 := wst_s h hq ht
  rw [h1]
  cases q with
  | false => rfl
  | true =>
    have h2 := @wst_one b one i
    rw [h] at h2
    have h3 : r = true := by revert hq; cases r <;> simp
    have h4 : v = one := h2 h3
    rw [h4]
set_option maxHeartbeats 600000 in
set_option maxRecDepth 100000 in
theorem kX1_worth (K : KT) (Wd : va_W) (n : Nat) (sg : Int32) (hn : n < 2 ^ 31) : ∀ lau : Launch, Con lau yX1_worth cX1_worth 10 (some .long) 2 42 K Wd (fun _ : Unit => Wd) [.int (nI n), .int sg] (some (.long (wC sg n))) := by
  refine conL (by decide) (Nat.le_of_ble_eq_true rfl) (fun E C hR => ?_)
  show G E K 0 0 Wd [(0, .int (nI n)), (1, .int sg)] 0 []
  refine g_iload_n (i := 1) C dX1_worth_0 rfl rfl ?_
  refine g_iconst (v := 0) C dX1_worth_1 (by decide) ?_
  refine g_callS (av := [.int sg, .int 0]) C dX1_worth_2 ln_X1_59 mf_X1_isPlus (kX1_isPlus K Wd sg 0) rfl rfl (Nat.le_of_ble_eq_true rfl) ⟨Nat.le_of_ble_eq_true rfl, Nat.le_of_ble_eq_true rfl⟩ ⟨Nat.zero_le _, Nat.zero_le _⟩ (fun _ => ?_)
  refine g_istore_n (i := 2) (lv2 := [(0, .int (nI n)), (1, .int sg), (2, .int (bz (tb sg 0)))]) C dX1_worth_5 rfl (by decide) rfl ?_
  refine g_iconst (v := 1) C dX1_worth_6 (by decide) ?_
  refine g_istore_n (i := 3) (lv2 := [(0, .int (nI n)), (1, .int sg), (2, .int (bz (tb sg 0))), (3, .int 1)]) C dX1_worth_7 rfl (by decide) rfl ?_
  refine g_ldc2 (v := 8388608) C dX1_worth_8 kc_X1_186 ?_
  refine g_lstore (lv2 := [(0, .int (nI n)), (1, .int sg), (2, .int (bz (tb sg 0))), (3, .int 1), (4, .long 8388608)]) C dX1_worth_11 (by decide) rfl ?_
  refine g_lconst (v := 0) C dX1_worth_13 (by decide) ?_
  refine g_lstore (lv2 := [(0, .int (nI n)), (1, .int sg), (2, .int (bz (tb sg 0))), (3, .int 1), (4, .long 8388608), (6, .long 0)]) C dX1_worth_14 (by decide) rfl ?_
  refine g_iconst (v := 0) C dX1_worth_16 (by decide) ?_
  refine g_istore (lv2 := [(0, .int (nI n)), (1, .int sg), (2, .int (bz (tb sg 0))), (3, .int 1), (4, .long 8388608), (6, .long 0), (8, .int 0)]) C dX1_worth_17 (by decide) rfl ?_
  have lp : ∀ (fuel : Nat) (i : Nat) (r : Bool) (v a : Int64), i ≤ n → n < i + fuel → wst (bt sg) 8388608 i = (r, v, a) → G E K 0 0 Wd [(0, .int (nI n)), (1, .int sg), (2, .int (bz (tb sg 0))), (3, .int (bz r)), (4, .long v), (6, .long a), (8, .int (nI i))] 19 [] := by
    intro fuel
    induction fuel with
    | zero =>
      intro i r v a hlp0 hlp1 hlp2
      omega
    | succ fuel ihlp =>
      intro i r v a hlp0 hlp1 hlp2
      refine g_iload C dX1_worth_19 rfl ?_
      refine g_iload_n (i := 0) C dX1_worth_21 rfl rfl ?_
      refine g_icmp_ge (tgt := 85) C dX1_worth_22 (by decide) (fun c22_1 => ?_) (fun c22_1 => ?_)
      · skip
        refine g_lload C dX1_worth_85 rfl ?_
        exact hR _ _ _ _ () dX1_worth_87 (by have e : i = n := Nat.le_antisymm hlp0 (nle c22_1 hn (by omega)); subst e; simp [wC, hlp2]) (rfl)
      · skip
        refine g_iload_n (i := 1) C dX1_worth_25 rfl rfl ?_
        refine g_iload C dX1_worth_26 rfl ?_
        refine g_callS (av := [.int sg, .int (nI i)]) C dX1_worth_28 ln_X1_59 mf_X1_isPlus (kX1_isPlus K Wd sg (nI i)) rfl rfl (Nat.le_of_ble_eq_true rfl) ⟨Nat.le_of_ble_eq_true rfl, Nat.le_of_ble_eq_true rfl⟩ ⟨Nat.zero_le _, Nat.zero_le _⟩ (fun _ => ?_)
        refine g_istore (lv2 := [(0, .int (nI n)), (1, .int sg), (2, .int (bz (tb sg 0))), (3, .int (bz r)), (4, .long v), (6, .long a), (8, .int (nI i)), (9, .int (bz (tb sg (nI i))))]) C dX1_worth_31 (by decide) rfl ?_
        have j48 : G E K 0 0 Wd [(0, .int (nI n)), (1, .int sg), (2, .int (bz (tb sg 0))), (3, .int (bz r)), (4, .long v), (6, .long a), (8, .int (nI i)), (9, .int (bz (tb sg (nI i))))] 48 [.int (bz (r && (tb sg (nI i) == tb sg 0)))] := by
          refine g_istore_n (i := 3) (lv2 := [(0, .int (nI n)), (1, .int sg), (2, .int (bz (tb sg 0))), (3, .int (bz (r && (tb sg (nI i) == tb sg 0)))), (4, .long v), (6, .long a), (8, .int (nI i)), (9, .int (bz (tb sg (nI i))))]) C dX1_worth_48 rfl (by decide) rfl ?_
          refine g_iload_n (i := 3) C dX1_worth_49 rfl rfl ?_
          refine g_bz_ne (tgt := 61) C dX1_worth_50 (by decide) (fun c50_2 => ?_) (fun c50_2 => ?_)
          · skip
            refine g_lload C dX1_worth_61 rfl ?_
            refine g_iload C dX1_worth_63 rfl ?_
            refine g_bz_eq (tgt := 73) C dX1_worth_65 (by decide) (fun c65_3 => ?_) (fun c65_3 => ?_)
            · skip
              refine g_lload C dX1_worth_73 rfl ?_
              refine g_lneg C dX1_worth_75 ?_
              refine g_ladd C dX1_worth_76 ?_
              refine g_lstore (lv2 := [(0, .int (nI n)), (1, .int sg), (2, .int (bz (tb sg 0))), (3, .int (bz (r && (tb sg (nI i) == tb sg 0)))), (4, .long v), (6, .long (a + (-v))), (8, .int (nI i)), (9, .int (bz (tb sg (nI i))))]) C dX1_worth_77 (by decide) rfl ?_
              refine g_iinc (v := nI (i + 1)) (lv2 := [(0, .int (nI n)), (1, .int sg), (2, .int (bz (tb sg 0))), (3, .int (bz (r && (tb sg (nI i) == tb sg 0)))), (4, .long v), (6, .long (a + (-v))), (8, .int (nI (i + 1))), (9, .int (bz (tb sg (nI i))))]) C dX1_worth_79 rfl (nI_inc i) (by decide) rfl ?_
              refine g_goto (tgt := 19) C dX1_worth_82 (by decide) ?_
              exact g_lvs [0, 1, 2, 3, 4, 5, 6] rfl (ihlp (i + 1) _ _ _ (nlt c22_1 hn (by omega)) (by omega) (by have h := wst_s hlp2 c50_2 c65_3; simp only [cond_true, cond_false] at h; exact h))
            · skip
              refine g_lload C dX1_worth_68 rfl ?_
              refine g_goto (tgt := 76) C dX1_worth_70 (by decide) ?_
              refine g_ladd C dX1_worth_76 ?_
              refine g_lstore (lv2 := [(0, .int (nI n)), (1, .int sg), (2, .int (bz (tb sg 0))), (3, .int (bz (r && (tb sg (nI i) == tb sg 0)))), (4, .long v), (6, .long (a + v)), (8, .int (nI i)), (9, .int (bz (tb sg (nI i))))]) C dX1_worth_77 (by decide) rfl ?_
              refine g_iinc (v := nI (i + 1)) (lv2 := [(0, .int (nI n)), (1, .int sg), (2, .int (bz (tb sg 0))), (3, .int (bz (r && (tb sg (nI i) == tb sg 0)))), (4, .long v), (6, .long (a + v)), (8, .int (nI (i + 1))), (9, .int (bz (tb sg (nI i))))]) C dX1_worth_79 rfl (nI_inc i) (by decide) rfl ?_
              refine g_goto (tgt := 19) C dX1_worth_82 (by decide) ?_
              exact g_lvs [0, 1, 2, 3, 4, 5, 6] rfl (ihlp (i + 1) _ _ _ (nlt c22_1 hn (by omega)) (by omega) (by have h := wst_s hlp2 c50_2 c65_3; simp only [cond_true, cond_false] at h; exact h))
          · skip
            refine g_lload C dX1_worth_53 rfl ?_
            refine g_ldc2 (v := 2) C dX1_worth_55 kc_X1_188 ?_
            refine g_ldiv C dX1_worth_58 (by decide) ?_
            refine g_lstore (lv2 := [(0, .int (nI n)), (1, .int sg), (2, .int (bz (tb sg 0))), (3, .int (bz (r && (tb sg (nI i) == tb sg 0)))), (4, .long (v / 2)), (6, .long a), (8, .int (nI i)), (9, .int (bz (tb sg (nI i))))]) C dX1_worth_59 (by decide) rfl ?_
            refine g_lload C dX1_worth_61 rfl ?_
            refine g_iload C dX1_worth_63 rfl ?_
            refine g_bz_eq (tgt := 73) C dX1_worth_65 (by decide) (fun c65_4 => ?_) (fun c65_4 => ?_)
            · skip
              refine g_lload C dX1_worth_73 rfl ?_
              refine g_lneg C dX1_worth_75 ?_
              refine g_ladd C dX1_worth_76 ?_
              refine g_lstore (lv2 := [(0, .int (nI n)), (1, .int sg), (2, .int (bz (tb sg 0))), (3, .int (bz (r && (tb sg (nI i) == tb sg 0)))), (4, .long (v / 2)), (6, .long (a + (-(v / 2)))), (8, .int (nI i)), (9, .int (bz (tb sg (nI i))))]) C dX1_worth_77 (by decide) rfl ?_
              refine g_iinc (v := nI (i + 1)) (lv2 := [(0, .int (nI n)), (1, .int sg), (2, .int (bz (tb sg 0))), (3, .int (bz (r && (tb sg (nI i) == tb sg 0)))), (4, .long (v / 2)), (6, .long (a + (-(v / 2)))), (8, .int (nI (i + 1))), (9, .int (bz (tb sg (nI i))))]) C dX1_worth_79 rfl (nI_inc i) (by decide) rfl ?_
              refine g_goto (tgt := 19) C dX1_worth_82 (by decide) ?_
              exact g_lvs [0, 1, 2, 3, 4, 5, 6] rfl (ihlp (i + 1) _ _ _ (nlt c22_1 hn (by omega)) (by omega) (by have h := wst_s hlp2 c50_2 c65_4; simp only [cond_true, cond_false] at h; exact h))
            · skip
              refine g_lload C dX1_worth_68 rfl ?_
              refine g_goto (tgt := 76) C dX1_worth_70 (by decide) ?_
              refine g_ladd C dX1_worth_76 ?_
              refine g_lstore (lv2 := [(0, .int (nI n)), (1, .int sg), (2, .int (bz (tb sg 0))), (3, .int (bz (r && (tb sg (nI i) == tb sg 0)))), (4, .long (v / 2)), (6, .long (a + (v / 2))), (8, .int (nI i)), (9, .int (bz (tb sg (nI i))))]) C dX1_worth_77 (by decide) rfl ?_
              refine g_iinc (v := nI (i + 1)) (lv2 := [(0, .int (nI n)), (1, .int sg), (2, .int (bz (tb sg 0))), (3, .int (bz (r && (tb sg (nI i) == tb sg 0)))), (4, .long (v / 2)), (6, .long (a + (v / 2))), (8, .int (nI (i + 1))), (9, .int (bz (tb sg (nI i))))]) C dX1_worth_79 rfl (nI_inc i) (by decide) rfl ?_
              refine g_goto (tgt := 19) C dX1_worth_82 (by decide) ?_
              exact g_lvs [0, 1, 2, 3, 4, 5, 6] rfl (ihlp (i + 1) _ _ _ (nlt c22_1 hn (by omega)) (by omega) (by have h := wst_s hlp2 c50_2 c65_4; simp only [cond_true, cond_false] at h; exact h))
        refine g_iload_n (i := 3) C dX1_worth_33 rfl rfl ?_
        refine g_bz_eq (tgt := 47) C dX1_worth_34 (by decide) (fun c34_5 => ?_) (fun c34_5 => ?_)
        · skip
          refine g_iconst (v := 0) C dX1_worth_47 (by decide) ?_
          exact g_eqi (by simp [bz, c34_5]) j48
        · skip
          refine g_iload C dX1_worth_37 rfl ?_
          refine g_iload_n (i := 2) C dX1_worth_39 rfl rfl ?_
          refine g_bzcmp_ne (tgt := 47) C dX1_worth_40 (by decide) (fun c40_6 => ?_) (fun c40_6 => ?_)
          · skip
            refine g_iconst (v := 0) C dX1_worth_47 (by decide) ?_
            exact g_eqi (by simp [bz, c34_5, c40_6]) j48
          · skip
            refine g_iconst (v := 1) C dX1_worth_43 (by decide) ?_
            refine g_goto (tgt := 48) C dX1_worth_44 (by decide) ?_
            exact g_eqi (by simp [bz, c34_5, c40_6]) j48
  exact g_lvs [0, 1, 2, 3, 4, 5, 6] rfl (lp (n + 1) 0 true 8388608 0 (Nat.zero_le _) (by omega) rfl)

set_option maxHeartbeats 600000 in
set_option maxRecDepth 100000 in
theorem kX2_worth (K : KT) (Wd : va_W) (sg : Int32) (n : Nat) (hn : n < 2 ^ 31) : ∀ lau : Launch, Con lau yX2_worth cX2_worth 9 (some .long) 0 0 K Wd (fun _ : Unit => Wd) [.int sg, .int (nI n)] (some (.long (wM sg n))) := by
  refine conL (by decide) (Nat.le_of_ble_eq_true rfl) (fun E C hR => ?_)
  show G E K 0 0 Wd [(0, .int sg), (1, .int (nI n))] 0 []
  refine g_lconst (v := 0) C dX2_worth_0 (by decide) ?_
  refine g_lstore_n (i := 2) (lv2 := [(0, .int sg), (1, .int (nI n)), (2, .long 0)]) C dX2_worth_1 rfl (by decide) rfl ?_
  refine g_ldc2 (v := 16777216) C dX2_worth_2 kc_X2_36 ?_
  refine g_lstore (lv2 := [(0, .int sg), (1, .int (nI n)), (2, .long 0), (4, .long 16777216)]) C dX2_worth_5 (by decide) rfl ?_
  refine g_iconst (v := 1) C dX2_worth_7 (by decide) ?_
  refine g_istore (lv2 := [(0, .int sg), (1, .int (nI n)), (2, .long 0), (4, .long 16777216), (6, .int 1)]) C dX2_worth_8 (by decide) rfl ?_
  refine g_iconst (v := 0) C dX2_worth_10 (by decide) ?_
  refine g_istore (lv2 := [(0, .int sg), (1, .int (nI n)), (2, .long 0), (4, .long 16777216), (6, .int 1), (7, .int 0)]) C dX2_worth_11 (by decide) rfl ?_
  have lp : ∀ (fuel : Nat) (i : Nat) (r : Bool) (v a : Int64), i ≤ n → n < i + fuel → wst (bt sg) 16777216 i = (r, v, a) → G E K 0 0 Wd [(0, .int sg), (1, .int (nI n)), (2, .long a), (4, .long v), (6, .int (bz r)), (7, .int (nI i))] 13 [] := by
    intro fuel
    induction fuel with
    | zero =>
      intro i r v a hlp0 hlp1 hlp2
      omega
    | succ fuel ihlp =>
      intro i r v a hlp0 hlp1 hlp2
      refine g_iload C dX2_worth_13 rfl ?_
      refine g_iload_n (i := 1) C dX2_worth_15 rfl rfl ?_
      refine g_icmp_ge (tgt := 106) C dX2_worth_16 (by decide) (fun c16_1 => ?_) (fun c16_1 => ?_)
      · skip
        refine g_lload_n (i := 2) C dX2_worth_106 rfl rfl ?_
        exact hR _ _ _ _ () dX2_worth_107 (by have e : i = n := Nat.le_antisymm hlp0 (nle c16_1 hn (by omega)); subst e; simp [wM, hlp2]) (rfl)
      · skip
        refine g_iload_n (i := 0) C dX2_worth_19 rfl rfl ?_
        refine g_iload C dX2_worth_20 rfl ?_
        refine g_ishr C dX2_worth_22 ?_
        refine g_iconst (v := 1) C dX2_worth_23 (by decide) ?_
        refine g_iand C dX2_worth_24 ?_
        refine g_iconst (v := 1) C dX2_worth_25 (by decide) ?_
        refine g_dia_icmp_ne (tgt := 33) C dX2_worth_26 dX2_worth_29 dX2_worth_30 dX2_worth_33 (by decide) (by decide) trivial ?_
        refine g_eqi (congrArg bz (tbS sg (nI i))) ?_
        refine g_istore (lv2 := [(0, .int sg), (1, .int (nI n)), (2, .long a), (4, .long v), (6, .int (bz r)), (7, .int (nI i)), (8, .int (bz (tb sg (nI i))))]) C dX2_worth_34 (by decide) rfl ?_
        have j63 : G E K 0 0 Wd [(0, .int sg), (1, .int (nI n)), (2, .long a), (4, .long v), (6, .int (bz r)), (7, .int (nI i)), (8, .int (bz (tb sg (nI i))))] 63 [.int (bz (r && (tb sg (nI i) == tb sg 0)))] := by
          refine g_istore (lv2 := [(0, .int sg), (1, .int (nI n)), (2, .long a), (4, .long v), (6, .int (bz (r && (tb sg (nI i) == tb sg 0)))), (7, .int (nI i)), (8, .int (bz (tb sg (nI i))))]) C dX2_worth_63 (by decide) rfl ?_
          refine g_iload C dX2_worth_65 rfl ?_
          refine g_bz_eq (tgt := 76) C dX2_worth_67 (by decide) (fun c67_2 => ?_) (fun c67_2 => ?_)
          · skip
            refine g_lload C dX2_worth_76 rfl ?_
            refine g_ldc2 (v := 2) C dX2_worth_78 kc_X2_38 ?_
            refine g_ldiv C dX2_worth_81 (by decide) ?_
            refine g_lstore (lv2 := [(0, .int sg), (1, .int (nI n)), (2, .long a), (4, .long (v / 2)), (6, .int (bz (r && (tb sg (nI i) == tb sg 0)))), (7, .int (nI i)), (8, .int (bz (tb sg (nI i))))]) C dX2_worth_82 (by decide) rfl ?_
            refine g_lload_n (i := 2) C dX2_worth_84 rfl rfl ?_
            refine g_iload C dX2_worth_85 rfl ?_
            refine g_bz_eq (tgt := 95) C dX2_worth_87 (by decide) (fun c87_3 => ?_) (fun c87_3 => ?_)
            · skip
              refine g_lload C dX2_worth_95 rfl ?_
              refine g_lneg C dX2_worth_97 ?_
              refine g_ladd C dX2_worth_98 ?_
              refine g_lstore_n (i := 2) (lv2 := [(0, .int sg), (1, .int (nI n)), (2, .long (a + (-(v / 2)))), (4, .long (v / 2)), (6, .int (bz (r && (tb sg (nI i) == tb sg 0)))), (7, .int (nI i)), (8, .int (bz (tb sg (nI i))))]) C dX2_worth_99 rfl (by decide) rfl ?_
              refine g_iinc (v := nI (i + 1)) (lv2 := [(0, .int sg), (1, .int (nI n)), (2, .long (a + (-(v / 2)))), (4, .long (v / 2)), (6, .int (bz (r && (tb sg (nI i) == tb sg 0)))), (7, .int (nI (i + 1))), (8, .int (bz (tb sg (nI i))))]) C dX2_worth_100 rfl (nI_inc i) (by decide) rfl ?_
              refine g_goto (tgt := 13) C dX2_worth_103 (by decide) ?_
              exact g_lvs [0, 1, 2, 3, 4, 5] rfl (ihlp (i + 1) _ _ _ (nlt c16_1 hn (by omega)) (by omega) (by have h := wst_sM hlp2 c67_2 c87_3; simp only [cond_true, cond_false] at h; exact h))
            · skip
              refine g_lload C dX2_worth_90 rfl ?_
              refine g_goto (tgt := 98) C dX2_worth_92 (by decide) ?_
              refine g_ladd C dX2_worth_98 ?_
              refine g_lstore_n (i := 2) (lv2 := [(0, .int sg), (1, .int (nI n)), (2, .long (a + (v / 2))), (4, .long (v / 2)), (6, .int (bz (r && (tb sg (nI i) == tb sg 0)))), (7, .int (nI i)), (8, .int (bz (tb sg (nI i))))]) C dX2_worth_99 rfl (by decide) rfl ?_
              refine g_iinc (v := nI (i + 1)) (lv2 := [(0, .int sg), (1, .int (nI n)), (2, .long (a + (v / 2))), (4, .long (v / 2)), (6, .int (bz (r && (tb sg (nI i) == tb sg 0)))), (7, .int (nI (i + 1))), (8, .int (bz (tb sg (nI i))))]) C dX2_worth_100 rfl (nI_inc i) (by decide) rfl ?_
              refine g_goto (tgt := 13) C dX2_worth_103 (by decide) ?_
              exact g_lvs [0, 1, 2, 3, 4, 5] rfl (ihlp (i + 1) _ _ _ (nlt c16_1 hn (by omega)) (by omega) (by have h := wst_sM hlp2 c67_2 c87_3; simp only [cond_true, cond_false] at h; exact h))
          · skip
            refine g_ldc2 (v := 16777216) C dX2_worth_70 kc_X2_36 ?_
            refine g_goto (tgt := 82) C dX2_worth_73 (by decide) ?_
            refine g_lstore (lv2 := [(0, .int sg), (1, .int (nI n)), (2, .long a), (4, .long 16777216), (6, .int (bz (r && (tb sg (nI i) == tb sg 0)))), (7, .int (nI i)), (8, .int (bz (tb sg (nI i))))]) C dX2_worth_82 (by decide) rfl ?_
            refine g_lload_n (i := 2) C dX2_worth_84 rfl rfl ?_
            refine g_iload C dX2_worth_85 rfl ?_
            refine g_bz_eq (tgt := 95) C dX2_worth_87 (by decide) (fun c87_4 => ?_) (fun c87_4 => ?_)
            · skip
              refine g_lload C dX2_worth_95 rfl ?_
              refine g_lneg C dX2_worth_97 ?_
              refine g_ladd C dX2_worth_98 ?_
              refine g_lstore_n (i := 2) (lv2 := [(0, .int sg), (1, .int (nI n)), (2, .long (a + (-16777216))), (4, .long 16777216), (6, .int (bz (r && (tb sg (nI i) == tb sg 0)))), (7, .int (nI i)), (8, .int (bz (tb sg (nI i))))]) C dX2_worth_99 rfl (by decide) rfl ?_
              refine g_iinc (v := nI (i + 1)) (lv2 := [(0, .int sg), (1, .int (nI n)), (2, .long (a + (-16777216))), (4, .long 16777216), (6, .int (bz (r && (tb sg (nI i) == tb sg 0)))), (7, .int (nI (i + 1))), (8, .int (bz (tb sg (nI i))))]) C dX2_worth_100 rfl (nI_inc i) (by decide) rfl ?_
              refine g_goto (tgt := 13) C dX2_worth_103 (by decide) ?_
              exact g_lvs [0, 1, 2, 3, 4, 5] rfl (ihlp (i + 1) _ _ _ (nlt c16_1 hn (by omega)) (by omega) (by have h := wst_sM hlp2 c67_2 c87_4; simp only [cond_true, cond_false] at h; exact h))
            · skip
              refine g_lload C dX2_worth_90 rfl ?_
              refine g_goto (tgt := 98) C dX2_worth_92 (by decide) ?_
              refine g_ladd C dX2_worth_98 ?_
              refine g_lstore_n (i := 2) (lv2 := [(0, .int sg), (1, .int (nI n)), (2, .long (a + 16777216)), (4, .long 16777216), (6, .int (bz (r && (tb sg (nI i) == tb sg 0)))), (7, .int (nI i)), (8, .int (bz (tb sg (nI i))))]) C dX2_worth_99 rfl (by decide) rfl ?_
              refine g_iinc (v := nI (i + 1)) (lv2 := [(0, .int sg), (1, .int (nI n)), (2, .long (a + 16777216)), (4, .long 16777216), (6, .int (bz (r && (tb sg (nI i) == tb sg 0)))), (7, .int (nI (i + 1))), (8, .int (bz (tb sg (nI i))))]) C dX2_worth_100 rfl (nI_inc i) (by decide) rfl ?_
              refine g_goto (tgt := 13) C dX2_worth_103 (by decide) ?_
              exact g_lvs [0, 1, 2, 3, 4, 5] rfl (ihlp (i + 1) _ _ _ (nlt c16_1 hn (by omega)) (by omega) (by have h := wst_sM hlp2 c67_2 c87_4; simp only [cond_true, cond_false] at h; exact h))
        refine g_iload C dX2_worth_36 rfl ?_
        refine g_bz_eq (tgt := 62) C dX2_worth_38 (by decide) (fun c38_5 => ?_) (fun c38_5 => ?_)
        · skip
          refine g_iconst (v := 0) C dX2_worth_62 (by decide) ?_
          exact g_eqi (by simp [bz, c38_5]) j63
        · skip
          refine g_iload C dX2_worth_41 rfl ?_
          refine g_iload_n (i := 0) C dX2_worth_43 rfl rfl ?_
          refine g_iconst (v := 1) C dX2_worth_44 (by decide) ?_
          refine g_iand C dX2_worth_45 ?_
          refine g_iconst (v := 1) C dX2_worth_46 (by decide) ?_
          refine g_dia_icmp_ne (tgt := 54) C dX2_worth_47 dX2_worth_50 dX2_worth_51 dX2_worth_54 (by decide) (by decide) trivial ?_
          refine g_eqi (congrArg bz (tb0 sg)) ?_
          refine g_bzcmp_ne (tgt := 62) C dX2_worth_55 (by decide) (fun c55_6 => ?_) (fun c55_6 => ?_)
          · skip
            refine g_iconst (v := 0) C dX2_worth_62 (by decide) ?_
            exact g_eqi (by simp [bz, c38_5, c55_6]) j63
          · skip
            refine g_iconst (v := 1) C dX2_worth_58 (by decide) ?_
            refine g_goto (tgt := 63) C dX2_worth_59 (by decide) ?_
            exact g_eqi (by simp [bz, c38_5, c55_6]) j63
  exact g_lvs [0, 1, 2, 3, 4, 5] rfl (lp (n + 1) 0 true 16777216 0 (Nat.zero_le _) (by omega) rfl)
end
section
abbrev CS : Type := Int32 × Int32 × (Nat → Int32) × (Nat → Int32) × (Nat → Int64) × (Nat → Nat → Int64)
def soF (ad : Nat → Nat) : Nat → Option Nat := fun z => if z < 8 then some (ad (5 + z)) else none
def cW (K : KT) (ad : Nat → Nat) (S : CS) (X : va_W) : va_W := oB (ad 0) 1 [.ref (ad 1), .ref (ad 2), .ref (ad 3), .int S.1, .int S.2.1, .ref (ad 4), .ref (ad 13), .ref (ad 14)] :: aI K (ad 1) 12 S.2.2.1 :: aI K (ad 2) 12 S.2.2.2.1 :: aJ K (ad 3) 12 S.2.2.2.2.1 :: aO K (ad 4) 8 (soF ad) :: (((List.range 10).map fun z => oB (ad (5 + z)) 0 [.ref (ad (15 + z))]) ++ (((List.range 10).map fun z => aJ K (ad (15 + z)) 13 (S.2.2.2.2.2 z)) ++ X))
def uF (F : Nat → Nat → Int64) (z : Nat) (g : Nat → Int64) : Nat → Nat → Int64 := fun y => if y = z then g else F y
theorem cW_S {K : KT} {ad : Nat → Nat} {S : CS} {X : va_W} {z : Nat} (h : z < 10) : (cW K ad S X)[5 + z]? = some (oB (ad (5 + z)) 0 [.ref (ad (15 + z))]) := by
  rw [show 5 + z = z + 5 from Nat.add_comm _ _]
  show ((((List.range 10).map fun z => oB (ad (5 + z)) 0 [.ref (ad (15 + z))]) ++ (((List.range 10).map fun z => aJ K (ad (15 + z)) 13 (S.2.2.2.2.2 z)) ++ X)))[z]? = _
  rw [List.getElem?_append_left (by simp; exact h)]
  simp [h, Nat.add_comm]
theorem cW_A {K : KT} {ad : Nat → Nat} {S : CS} {X : va_W} {z : Nat} (h : z < 10) : (cW K ad S X)[15 + z]? = some (aJ K (ad (15 + z)) 13 (S.2.2.2.2.2 z)) := by
  rw [show 15 + z = (z + 10) + 5 from by omega]
  show ((((List.range 10).map fun z => oB (ad (5 + z)) 0 [.ref (ad (15 + z))]) ++ (((List.range 10).map fun z => aJ K (ad (15 + z)) 13 (S.2.2.2.2.2 z)) ++ X)))[z + 10]? = _
  rw [List.getElem?_append_right (by simp)]
  rw [List.getElem?_append_left (by simp; exact h)]
  simp [h]
  rw [show z + 10 + 5 = 15 + z from by omega]
theorem cW_set {K : KT} {ad : Nat → Nat} {S : CS} {X : va_W} {z : Nat} {g : Nat → Int64} (h : z < 10) : (cW K ad S X).set (15 + z) (aJ K (ad (15 + z)) 13 g) = cW K ad (S.1, S.2.1, S.2.2.1, S.2.2.2.1, S.2.2.2.2.1, uF S.2.2.2.2.2 z g) X := by
  apply List.ext_getElem?
  intro i
  rw [List.getElem?_set]
  by_cases hi : 15 + z = i
  · subst hi
    rw [if_pos rfl, cW_A h]
    have hl : 15 + z < (cW K ad S X).length := by simp [cW]; omega
    rw [if_pos hl]
    simp [uF]
  · rw [if_neg hi]
    by_cases h2 : 15 ≤ i ∧ i < 25
    · obtain ⟨y, rfl⟩ : ∃ y, i = 15 + y := ⟨i - 15, by omega⟩
      rw [cW_A (by omega), cW_A (by omega)]
      have : y ≠ z := by omega
      simp [uF, this]
    · rcases Nat.lt_or_ge i 15 with h3 | h3
      · rcases Nat.lt_or_ge i 5 with h4 | h4
        · match i, h4 with
          | 0, _ => rfl
          | 1, _ => rfl
          | 2, _ => rfl
          | 3, _ => rfl
          | 4, _ => rfl
        · obtain ⟨y, rfl⟩ : ∃ y, i = 5 + y := ⟨i - 5, by omega⟩
          rw [cW_S (by omega), cW_S (by omega)]
      · obtain ⟨y, rfl⟩ : ∃ y, i = (y + 10 + 10) + 5 := ⟨i - 25, by omega⟩
        show ((((List.range 10).map fun z => oB (ad (5 + z)) 0 [.ref (ad (15 + z))]) ++ (((List.range 10).map fun z => aJ K (ad (15 + z)) 13 (S.2.2.2.2.2 z)) ++ X)))[y + 10 + 10]? = ((((List.range 10).map fun z => oB (ad (5 + z)) 0 [.ref (ad (15 + z))]) ++ (((List.range 10).map fun y => aJ K (ad (15 + y)) 13 (uF S.2.2.2.2.2 z g y)) ++ X)))[y + 10 + 10]?
        rw [List.getElem?_append_right (by simp), List.getElem?_append_right (by simp), List.getElem?_append_right (by simp), List.getElem?_append_right (by simp)]
        simp
theorem isReg_in {x : Int32} (h : isReg x = true) : vp_in x 12 := by
  simp only [isReg, Bool.and_eq_true, Bool.not_eq_true', decide_eq_false_iff_not] at h
  rw [vp_in_iff]
  have h1 := h.1
  have h2 := h.2
  rw [Int32.lt_iff_toInt_lt] at h1
  rw [Int32.le_iff_toInt_le] at h2
  have e0 : (0 : Int32).toInt = 0 := rfl
  have e12 : (12 : Int32).toInt = 12 := rfl
  omega
theorem isSm_in {x : Int32} (h : isSm x = true) : vp_in x 8 := by
  simp only [isSm, Bool.and_eq_true, Bool.not_eq_true', decide_eq_false_iff_not] at h
  rw [vp_in_iff]
  have h1 := h.1
  have h2 := h.2
  rw [Int32.lt_iff_toInt_lt] at h1
  rw [Int32.le_iff_toInt_le] at h2
  have e0 : (0 : Int32).toInt = 0 := rfl
  have e8 : (8 : Int32).toInt = 8 := rfl
  omega
theorem vp_lt {x : Int32} {n : Nat} (h : vp_in x n) : x.toNatClampNeg < n := Nat.not_le.mp fun q => h (Or.inr q)
theorem soF_in {ad : Nat → Nat} {x : Int32} (h : isSm x = true) : soF ad x.toNatClampNeg = some (ad (5 + x.toNatClampNeg)) := if_pos (vp_lt (isSm_in h))
theorem isSm_z {x : Int32} (h : isSm x = true) : x.toNatClampNeg < 10 := Nat.lt_trans (vp_lt (isSm_in h)) (by decide)
end
section
def cHold (S : CS) (s n x : Int32) : CS := (S.1, S.2.1, upd S.2.2.1 s.toNatClampNeg n, upd S.2.2.2.1 s.toNatClampNeg x, vp_updL S.2.2.2.2.1 s.toNatClampNeg (wC x n.toNatClampNeg), S.2.2.2.2.2)
def hsL (lo hi : Int64) : Nat → Nat → Int32 → Option (Nat × Int32)
  | 0, _, _ => none
  | f + 1, n, x => if lo ≤ wC x n then (if hi < wC x n then hsL lo hi f (n + 1) x else some (n, x)) else hsL lo hi f (n + 1) (x ||| (1 <<< (nI n &&& 31)))
def cHS (S : CS) (s : Int32) (lo hi : Int64) : Int32 × CS := match hsL lo hi 25 0 0 with
  | none => (-3, S)
  | some q => (nI q.1, cHold S s (nI q.1) q.2)
def cHV (S : CS) (s : Int32) (w : Int64) : Int32 × CS := cHS S s w w
def cHP (S : CS) (s : Int32) (w : Int64) : Int32 × CS := if w - w / 8388608 * 8388608 = 0 then cHV S s (w / 8388608) else (-3, S)
abbrev dyC (S : CS) (s : Int32) : Int32 := S.2.2.1 s.toNatClampNeg
abbrev sgC (S : CS) (s : Int32) : Int32 := S.2.2.2.1 s.toNatClampNeg
abbrev vlC (S : CS) (s : Int32) : Int64 := S.2.2.2.2.1 s.toNatClampNeg
def cRow (S : CS) (s n x : Int32) : Int32 × CS := bif isReg s then (if n < 0 then (-1, S) else if 24 < n then (-1, S) else if ushrI x n = 0 then (n, cHold S s n x) else (-1, S)) else (-1, S)
def cNum (S : CS) (s a k : Int32) : Int32 × CS := bif isReg s then bif isFr a k then cHV S s (shlL a.toInt64 (23 - k)) else (-1, S) else (-1, S)
def cAt (S : CS) (s i : Int32) : Int32 := bif isReg s then (if -1 ≤ i then (if i = -1 then dyC S s else if i < dyC S s then bz (tb (sgC S s) i) else -4) else -1) else -1
def cVal (S : CS) (s w : Int32) : Int32 := bif isReg s then (if w < 0 then -1000000000 else if w ≤ 1 then (if w = 0 then lAbo (vlC S s) 23 else lBel (vlC S s) 23) else -1000000000) else -1000000000
def cAgn (S : CS) (s t : Int32) : Int32 := bif isReg s then bif isReg t then sgnO (vlC S s - vlC S t) else -9 else -9
def cWork (S : CS) (s how t u : Int32) : Int32 × CS := bif isReg s then (if how < 0 then (-1, S) else if 3 < how then (-1, S) else bif isReg t then (if how = 3 then cHV S s (-(vlC S t)) else bif isReg u then (if how = 2 then cHP S s (vlC S t * vlC S u) else if how = 0 then cHV S s (vlC S t + vlC S u) else cHV S s (vlC S t - vlC S u)) else (-1, S)) else (-1, S)) else (-1, S)
def cPair (S : CS) (w : Int32) : Int32 := if w < 0 then -1 else if w ≤ 1 then (if w = 0 then S.1 else S.2.1) else -1
theorem kX1_worthI (K : KT) (Wd : va_W) (n sg : Int32) (h : ¬ n < 0) : ∀ l : Launch, Con l yX1_worth cX1_worth 10 (some .long) 2 42 K Wd (fun _ : Unit => Wd) [.int n, .int sg] (some (.long (wC sg n.toNatClampNeg))) := by
  obtain ⟨j, hj, rfl⟩ := nI_of h
  rw [nI_clamp hj]
  exact kX1_worth K Wd j sg hj
theorem nlt24 {n : Nat} (h : ¬ (24 : Int32) < nI n) (hn : n < 2 ^ 31) : n < 25 := by
  rcases Nat.lt_or_ge n 25 with q | q
  · exact q
  · exact absurd (show nI 24 < nI n from nI_lt (by omega) hn) h
theorem nge24 {n : Nat} (h : (24 : Int32) < nI n) (hn : n < 2 ^ 31) : 25 ≤ n := by
  rcases Nat.lt_or_ge n 25 with q | q
  · exact absurd h (show ¬ nI 24 < nI n from nI_nlt (by omega) (by omega))
  · exact q
theorem hsL_s {lo hi : Int64} {n : Nat} {x : Int32} (h : n < 25) : hsL lo hi (25 - n) n x = (if lo ≤ wC x n then (if hi < wC x n then hsL lo hi (25 - (n + 1)) (n + 1) x else some (n, x)) else hsL lo hi (25 - (n + 1)) (n + 1) (x ||| (1 <<< (nI n &&& 31)))) := by
  rw [show 25 - n = (25 - (n + 1)) + 1 from by omega]
  rfl
set_option maxHeartbeats 600000 in
set_option maxRecDepth 100000 in
theorem kX1_hold (K : KT) (ad : Nat → Nat) (S : CS) (X : va_W) (s : Int32) (n : Int32) (x : Int32) (hs : isReg s = true) (hn : ¬ n < 0) : ∀ lau : Launch, Con lau yX1_hold cX1_hold 4 (some .int) 3 71 K (cW K ad S X) (fun _ : Unit => cW K ad (cHold S s n x) X) [.ref (ad 0), .int s, .int n, .int x] (some (.int n)) := by
  refine conI (by decide) (Nat.le_of_ble_eq_true rfl) (fun E C hR => ?_)
  show G E K 0 0 (cW K ad S X) [(0, .ref (ad 0)), (1, .int s), (2, .int n), (3, .int x)] 0 []
  refine g_aload_n (i := 0) C dX1_hold_0 rfl rfl ?_
  refine g_get C dX1_hold_1 fl_X1_11 0 rfl rfl ?_
  refine g_iload_n (i := 1) C dX1_hold_4 rfl rfl ?_
  refine g_iload_n (i := 2) C dX1_hold_5 rfl rfl ?_
  refine g_iast (Wd2 := cW K ad (S.1, S.2.1, upd S.2.2.1 s.toNatClampNeg n, S.2.2.2.1, S.2.2.2.2.1, S.2.2.2.2.2) X) C dX1_hold_6 1 rfl (isReg_in hs) rfl ?_
  refine g_aload_n (i := 0) C dX1_hold_7 rfl rfl ?_
  refine g_get C dX1_hold_8 fl_X1_15 0 rfl rfl ?_
  refine g_iload_n (i := 1) C dX1_hold_11 rfl rfl ?_
  refine g_iload_n (i := 3) C dX1_hold_12 rfl rfl ?_
  refine g_iast (Wd2 := cW K ad (S.1, S.2.1, upd S.2.2.1 s.toNatClampNeg n, upd S.2.2.2.1 s.toNatClampNeg x, S.2.2.2.2.1, S.2.2.2.2.2) X) C dX1_hold_13 2 rfl (isReg_in hs) rfl ?_
  refine g_aload_n (i := 0) C dX1_hold_14 rfl rfl ?_
  refine g_get C dX1_hold_15 fl_X1_18 0 rfl rfl ?_
  refine g_iload_n (i := 1) C dX1_hold_18 rfl rfl ?_
  refine g_iload_n (i := 2) C dX1_hold_19 rfl rfl ?_
  refine g_iload_n (i := 3) C dX1_hold_20 rfl rfl ?_
  refine g_callS (av := [.int n, .int x]) C dX1_hold_21 ln_X1_182 mf_X1_worth (kX1_worthI K (cW K ad (S.1, S.2.1, upd S.2.2.1 s.toNatClampNeg n, upd S.2.2.2.1 s.toNatClampNeg x, S.2.2.2.2.1, S.2.2.2.2.2) X) n x hn) rfl rfl (Nat.le_of_ble_eq_true rfl) ⟨Nat.le_of_ble_eq_true rfl, Nat.le_of_ble_eq_true rfl⟩ ⟨Nat.zero_le _, Nat.zero_le _⟩ (fun _ => ?_)
  refine g_last (Wd2 := cW K ad (S.1, S.2.1, upd S.2.2.1 s.toNatClampNeg n, upd S.2.2.2.1 s.toNatClampNeg x, vp_updL S.2.2.2.2.1 s.toNatClampNeg (wC x n.toNatClampNeg), S.2.2.2.2.2) X) C dX1_hold_24 3 rfl (isReg_in hs) rfl ?_
  refine g_iload_n (i := 2) C dX1_hold_25 rfl rfl ?_
  exact hR _ _ _ _ () dX1_hold_26 (rfl) (rfl)

set_option maxHeartbeats 600000 in
set_option maxRecDepth 100000 in
theorem kX1_holdSimplest (K : KT) (ad : Nat → Nat) (S : CS) (X : va_W) (s : Int32) (lo : Int64) (hi : Int64) (hs : isReg s = true) : ∀ lau : Launch, Con lau yX1_holdSimplest cX1_holdSimplest 10 (some .int) 4 94 K (cW K ad S X) (fun _ : Unit => cW K ad ((cHS S s lo hi).2) X) [.ref (ad 0), .int s, .long lo, .long hi] (some (.int ((cHS S s lo hi).1))) := by
  refine conI (by decide) (Nat.le_of_ble_eq_true rfl) (fun E C hR => ?_)
  show G E K 0 0 (cW K ad S X) [(0, .ref (ad 0)), (1, .int s), (2, .long lo), (4, .long hi)] 0 []
  refine g_iconst (v := 0) C dX1_holdSimplest_0 (by decide) ?_
  refine g_istore (lv2 := [(0, .ref (ad 0)), (1, .int s), (2, .long lo), (4, .long hi), (6, .int 0)]) C dX1_holdSimplest_1 (by decide) rfl ?_
  refine g_iconst (v := 0) C dX1_holdSimplest_3 (by decide) ?_
  refine g_istore (lv2 := [(0, .ref (ad 0)), (1, .int s), (2, .long lo), (4, .long hi), (6, .int 0), (7, .int 0)]) C dX1_holdSimplest_4 (by decide) rfl ?_
  have lp : ∀ (fuel : Nat) (n : Nat) (x : Int32), n ≤ 25 → 25 < n + fuel → hsL lo hi (25 - n) n x = hsL lo hi 25 0 0 → G E K 0 0 (cW K ad S X) [(0, .ref (ad 0)), (1, .int s), (2, .long lo), (4, .long hi), (6, .int x), (7, .int (nI n))] 6 [] := by
    intro fuel
    induction fuel with
    | zero =>
      intro n x hlp0 hlp1 hlp2
      omega
    | succ fuel ihlp =>
      intro n x hlp0 hlp1 hlp2
      refine g_iload C dX1_holdSimplest_6 rfl ?_
      refine g_bipush (v := 24) C dX1_holdSimplest_8 (by decide) ?_
      refine g_icmp_gt (tgt := 65) C dX1_holdSimplest_10 (by decide) (fun c10_1 => ?_) (fun c10_1 => ?_)
      · skip
        refine g_bipush (v := (-3)) C dX1_holdSimplest_65 (by decide) ?_
        exact hR _ _ _ _ () dX1_holdSimplest_67 (by have e : n = 25 := (by have := nge24 c10_1 (by omega); omega); subst e; rw [cHS, ← hlp2]; rfl) (by have e : n = 25 := (by have := nge24 c10_1 (by omega); omega); subst e; rw [cHS, ← hlp2]; rfl)
      · skip
        refine g_iload C dX1_holdSimplest_13 rfl ?_
        refine g_iload C dX1_holdSimplest_15 rfl ?_
        refine g_callS (av := [.int (nI n), .int x]) C dX1_holdSimplest_17 ln_X1_182 mf_X1_worth (kX1_worth K (cW K ad S X) n x (by omega)) rfl rfl (Nat.le_of_ble_eq_true rfl) ⟨Nat.le_of_ble_eq_true rfl, Nat.le_of_ble_eq_true rfl⟩ ⟨Nat.zero_le _, Nat.zero_le _⟩ (fun _ => ?_)
        refine g_lstore (lv2 := [(0, .ref (ad 0)), (1, .int s), (2, .long lo), (4, .long hi), (6, .int x), (7, .int (nI n)), (8, .long (wC x n))]) C dX1_holdSimplest_20 (by decide) rfl ?_
        refine g_lload C dX1_holdSimplest_22 rfl ?_
        refine g_lload_n (i := 2) C dX1_holdSimplest_24 rfl rfl ?_
        refine g_lcmp_ge (tgt := 41) C dX1_holdSimplest_25 dX1_holdSimplest_26 (by decide) (fun c25_2 => ?_) (fun c25_2 => ?_)
        · skip
          refine g_lload C dX1_holdSimplest_41 rfl ?_
          refine g_lload C dX1_holdSimplest_43 rfl ?_
          refine g_lcmp_gt (tgt := 59) C dX1_holdSimplest_45 dX1_holdSimplest_46 (by decide) (fun c45_3 => ?_) (fun c45_3 => ?_)
          · skip
            refine g_iinc (v := nI (n + 1)) (lv2 := [(0, .ref (ad 0)), (1, .int s), (2, .long lo), (4, .long hi), (6, .int x), (7, .int (nI (n + 1))), (8, .long (wC x n))]) C dX1_holdSimplest_59 rfl (nI_inc n) (by decide) rfl ?_
            refine g_goto (tgt := 6) C dX1_holdSimplest_62 (by decide) ?_
            exact g_lvs [0, 1, 2, 3, 4, 5] rfl (ihlp (n + 1) _ (by have := nlt24 c10_1 (by omega); omega) (by omega) (by rw [← hlp2, hsL_s (nlt24 c10_1 (by omega))]; simp [c25_2, c45_3]))
          · skip
            refine g_aload_n (i := 0) C dX1_holdSimplest_49 rfl rfl ?_
            refine g_iload_n (i := 1) C dX1_holdSimplest_50 rfl rfl ?_
            refine g_iload C dX1_holdSimplest_51 rfl ?_
            refine g_iload C dX1_holdSimplest_53 rfl ?_
            refine g_callV (av := [.int s, .int (nI n), .int x]) C dX1_holdSimplest_55 ln_X1_47 mf_X1_hold 0 rfl rfl (kX1_hold K ad S X s (nI n) x hs (nI_pos (by have := nlt24 c10_1 (by omega); omega))) rfl rfl (Nat.le_of_ble_eq_true rfl) ⟨Nat.le_of_ble_eq_true rfl, Nat.le_of_ble_eq_true rfl⟩ ⟨Nat.zero_le _, Nat.zero_le _⟩ (fun _ => ?_)
            exact hR _ _ _ _ () dX1_holdSimplest_58 (by rw [cHS, ← hlp2, hsL_s (nlt24 c10_1 (by omega))]; simp [c25_2, c45_3]) (by rw [cHS, ← hlp2, hsL_s (nlt24 c10_1 (by omega))]; simp [c25_2, c45_3])
        · skip
          refine g_iload C dX1_holdSimplest_29 rfl ?_
          refine g_iconst (v := 1) C dX1_holdSimplest_31 (by decide) ?_
          refine g_iload C dX1_holdSimplest_32 rfl ?_
          refine g_ishl C dX1_holdSimplest_34 ?_
          refine g_ior C dX1_holdSimplest_35 ?_
          refine g_istore (lv2 := [(0, .ref (ad 0)), (1, .int s), (2, .long lo), (4, .long hi), (6, .int (x ||| (1 <<< ((nI n) &&& 31)))), (7, .int (nI n)), (8, .long (wC x n))]) C dX1_holdSimplest_36 (by decide) rfl ?_
          refine g_goto (tgt := 59) C dX1_holdSimplest_38 (by decide) ?_
          refine g_iinc (v := nI (n + 1)) (lv2 := [(0, .ref (ad 0)), (1, .int s), (2, .long lo), (4, .long hi), (6, .int (x ||| (1 <<< ((nI n) &&& 31)))), (7, .int (nI (n + 1))), (8, .long (wC x n))]) C dX1_holdSimplest_59 rfl (nI_inc n) (by decide) rfl ?_
          refine g_goto (tgt := 6) C dX1_holdSimplest_62 (by decide) ?_
          exact g_lvs [0, 1, 2, 3, 4, 5] rfl (ihlp (n + 1) _ (by have := nlt24 c10_1 (by omega); omega) (by omega) (by rw [← hlp2, hsL_s (nlt24 c10_1 (by omega))]; simp [c25_2]))
  exact g_lvs [0, 1, 2, 3, 4, 5] rfl (lp 26 0 0 (by omega) (by omega) rfl)

set_option maxHeartbeats 600000 in
set_option maxRecDepth 100000 in
theorem kX1_holdValue (K : KT) (ad : Nat → Nat) (S : CS) (X : va_W) (s : Int32) (v : Int64) (hs : isReg s = true) : ∀ lau : Launch, Con lau yX1_holdValue cX1_holdValue 4 (some .int) 5 123 K (cW K ad S X) (fun _ : Unit => cW K ad ((cHV S s v).2) X) [.ref (ad 0), .int s, .long v] (some (.int ((cHV S s v).1))) := by
  refine conI (by decide) (Nat.le_of_ble_eq_true rfl) (fun E C hR => ?_)
  show G E K 0 0 (cW K ad S X) [(0, .ref (ad 0)), (1, .int s), (2, .long v)] 0 []
  refine g_aload_n (i := 0) C dX1_holdValue_0 rfl rfl ?_
  refine g_iload_n (i := 1) C dX1_holdValue_1 rfl rfl ?_
  refine g_lload_n (i := 2) C dX1_holdValue_2 rfl rfl ?_
  refine g_lload_n (i := 2) C dX1_holdValue_3 rfl rfl ?_
  refine g_callV (av := [.int s, .long v, .long v]) C dX1_holdValue_4 ln_X1_94 mf_X1_holdSimplest 0 rfl rfl (kX1_holdSimplest K ad S X s v v hs) rfl rfl (Nat.le_of_ble_eq_true rfl) ⟨Nat.le_of_ble_eq_true rfl, Nat.le_of_ble_eq_true rfl⟩ ⟨Nat.zero_le _, Nat.zero_le _⟩ (fun _ => ?_)
  exact hR _ _ _ _ () dX1_holdValue_7 (rfl) (rfl)

set_option maxHeartbeats 600000 in
set_option maxRecDepth 100000 in
theorem kX1_holdProduct (K : KT) (ad : Nat → Nat) (S : CS) (X : va_W) (s : Int32) (v : Int64) (hs : isReg s = true) : ∀ lau : Launch, Con lau yX1_holdProduct cX1_holdProduct 4 (some .int) 6 146 K (cW K ad S X) (fun _ : Unit => cW K ad ((cHP S s v).2) X) [.ref (ad 0), .int s, .long v] (some (.int ((cHP S s v).1))) := by
  refine conI (by decide) (Nat.le_of_ble_eq_true rfl) (fun E C hR => ?_)
  show G E K 0 0 (cW K ad S X) [(0, .ref (ad 0)), (1, .int s), (2, .long v)] 0 []
  refine g_lload_n (i := 2) C dX1_holdProduct_0 rfl rfl ?_
  refine g_ldc2 (v := 8388608) C dX1_holdProduct_1 kc_X1_186 ?_
  refine g_lrem C dX1_holdProduct_4 (by decide) ?_
  refine g_lconst (v := 0) C dX1_holdProduct_5 (by decide) ?_
  refine g_lcmp_eq (tgt := 13) C dX1_holdProduct_6 dX1_holdProduct_7 (by decide) (fun c6_1 => ?_) (fun c6_1 => ?_)
  · skip
    refine g_aload_n (i := 0) C dX1_holdProduct_13 rfl rfl ?_
    refine g_iload_n (i := 1) C dX1_holdProduct_14 rfl rfl ?_
    refine g_lload_n (i := 2) C dX1_holdProduct_15 rfl rfl ?_
    refine g_ldc2 (v := 8388608) C dX1_holdProduct_16 kc_X1_186 ?_
    refine g_ldiv C dX1_holdProduct_19 (by decide) ?_
    refine g_callV (av := [.int s, .long (v / 8388608)]) C dX1_holdProduct_20 ln_X1_55 mf_X1_holdValue 0 rfl rfl (kX1_holdValue K ad S X s (v / 8388608) hs) rfl rfl (Nat.le_of_ble_eq_true rfl) ⟨Nat.le_of_ble_eq_true rfl, Nat.le_of_ble_eq_true rfl⟩ ⟨Nat.zero_le _, Nat.zero_le _⟩ (fun _ => ?_)
    exact hR _ _ _ _ () dX1_holdProduct_23 (by rw [cHP, if_pos c6_1] <;> rfl) (by show _ = cW K ad (cHP S s v).2 X; rw [cHP, if_pos c6_1] <;> rfl)
  · skip
    refine g_bipush (v := (-3)) C dX1_holdProduct_10 (by decide) ?_
    exact hR _ _ _ _ () dX1_holdProduct_12 (by rw [cHP, if_neg c6_1] <;> rfl) (by show _ = cW K ad (cHP S s v).2 X; rw [cHP, if_neg c6_1] <;> rfl)

set_option maxHeartbeats 600000 in
set_option maxRecDepth 100000 in
theorem kX1_row (K : KT) (ad : Nat → Nat) (S : CS) (X : va_W) (s : Int32) (n : Int32) (x : Int32) : ∀ lau : Launch, Con lau yX1_row cX1_row 4 (some .int) 4 94 K (cW K ad S X) (fun _ : Unit => cW K ad ((cRow S s n x).2) X) [.ref (ad 0), .int s, .int n, .int x] (some (.int ((cRow S s n x).1))) := by
  refine conI (by decide) (Nat.le_of_ble_eq_true rfl) (fun E C hR => ?_)
  show G E K 0 0 (cW K ad S X) [(0, .ref (ad 0)), (1, .int s), (2, .int n), (3, .int x)] 0 []
  refine g_iload_n (i := 1) C dX1_row_0 rfl rfl ?_
  refine g_callS (av := [.int s]) C dX1_row_1 ln_X1_43 mf_X1_isRegister (kX1_isRegister K (cW K ad S X) s) rfl rfl (Nat.le_of_ble_eq_true rfl) ⟨Nat.le_of_ble_eq_true rfl, Nat.le_of_ble_eq_true rfl⟩ ⟨Nat.zero_le _, Nat.zero_le _⟩ (fun _ => ?_)
  refine g_bz_eq (tgt := 23) C dX1_row_4 (by decide) (fun c4_1 => ?_) (fun c4_1 => ?_)
  · skip
    refine g_iconst (v := (-1)) C dX1_row_23 (by decide) ?_
    exact hR _ _ _ _ () dX1_row_24 (by rw [cRow, c4_1, cond_false] <;> rfl) (by show _ = cW K ad (cRow S s n x).2 X; rw [cRow, c4_1, cond_false] <;> rfl)
  · skip
    refine g_iload_n (i := 2) C dX1_row_7 rfl rfl ?_
    refine g_if_lt (tgt := 23) C dX1_row_8 (by decide) (fun c8_2 => ?_) (fun c8_2 => ?_)
    · skip
      refine g_iconst (v := (-1)) C dX1_row_23 (by decide) ?_
      exact hR _ _ _ _ () dX1_row_24 (by rw [cRow, c4_1, cond_true, if_pos c8_2] <;> rfl) (by show _ = cW K ad (cRow S s n x).2 X; rw [cRow, c4_1, cond_true, if_pos c8_2] <;> rfl)
    · skip
      refine g_iload_n (i := 2) C dX1_row_11 rfl rfl ?_
      refine g_bipush (v := 24) C dX1_row_12 (by decide) ?_
      refine g_icmp_gt (tgt := 23) C dX1_row_14 (by decide) (fun c14_3 => ?_) (fun c14_3 => ?_)
      · skip
        refine g_iconst (v := (-1)) C dX1_row_23 (by decide) ?_
        exact hR _ _ _ _ () dX1_row_24 (by rw [cRow, c4_1, cond_true, if_neg c8_2, if_pos c14_3] <;> rfl) (by show _ = cW K ad (cRow S s n x).2 X; rw [cRow, c4_1, cond_true, if_neg c8_2, if_pos c14_3] <;> rfl)
      · skip
        refine g_iload_n (i := 3) C dX1_row_17 rfl rfl ?_
        refine g_iload_n (i := 2) C dX1_row_18 rfl rfl ?_
        refine g_iushr (v := ushrI x n) C dX1_row_19 rfl ?_
        refine g_if_eq (tgt := 25) C dX1_row_20 (by decide) (fun c20_4 => ?_) (fun c20_4 => ?_)
        · skip
          refine g_aload_n (i := 0) C dX1_row_25 rfl rfl ?_
          refine g_iload_n (i := 1) C dX1_row_26 rfl rfl ?_
          refine g_iload_n (i := 2) C dX1_row_27 rfl rfl ?_
          refine g_iload_n (i := 3) C dX1_row_28 rfl rfl ?_
          refine g_callV (av := [.int s, .int n, .int x]) C dX1_row_29 ln_X1_47 mf_X1_hold 0 rfl rfl (kX1_hold K ad S X s n x c4_1 c8_2) rfl rfl (Nat.le_of_ble_eq_true rfl) ⟨Nat.le_of_ble_eq_true rfl, Nat.le_of_ble_eq_true rfl⟩ ⟨Nat.zero_le _, Nat.zero_le _⟩ (fun _ => ?_)
          exact hR _ _ _ _ () dX1_row_32 (by rw [cRow, c4_1, cond_true, if_neg c8_2, if_neg c14_3, if_pos c20_4] <;> rfl) (by show _ = cW K ad (cRow S s n x).2 X; rw [cRow, c4_1, cond_true, if_neg c8_2, if_neg c14_3, if_pos c20_4] <;> rfl)
        · skip
          refine g_iconst (v := (-1)) C dX1_row_23 (by decide) ?_
          exact hR _ _ _ _ () dX1_row_24 (by rw [cRow, c4_1, cond_true, if_neg c8_2, if_neg c14_3, if_neg c20_4] <;> rfl) (by show _ = cW K ad (cRow S s n x).2 X; rw [cRow, c4_1, cond_true, if_neg c8_2, if_neg c14_3, if_neg c20_4] <;> rfl)

set_option maxHeartbeats 600000 in
set_option maxRecDepth 100000 in
theorem kX1_number (K : KT) (ad : Nat → Nat) (S : CS) (X : va_W) (s : Int32) (a : Int32) (k : Int32) : ∀ lau : Launch, Con lau yX1_number cX1_number 4 (some .int) 6 146 K (cW K ad S X) (fun _ : Unit => cW K ad ((cNum S s a k).2) X) [.ref (ad 0), .int s, .int a, .int k] (some (.int ((cNum S s a k).1))) := by
  refine conI (by decide) (Nat.le_of_ble_eq_true rfl) (fun E C hR => ?_)
  show G E K 0 0 (cW K ad S X) [(0, .ref (ad 0)), (1, .int s), (2, .int a), (3, .int k)] 0 []
  refine g_iload_n (i := 1) C dX1_number_0 rfl rfl ?_
  refine g_callS (av := [.int s]) C dX1_number_1 ln_X1_43 mf_X1_isRegister (kX1_isRegister K (cW K ad S X) s) rfl rfl (Nat.le_of_ble_eq_true rfl) ⟨Nat.le_of_ble_eq_true rfl, Nat.le_of_ble_eq_true rfl⟩ ⟨Nat.zero_le _, Nat.zero_le _⟩ (fun _ => ?_)
  refine g_bz_eq (tgt := 15) C dX1_number_4 (by decide) (fun c4_1 => ?_) (fun c4_1 => ?_)
  · skip
    refine g_iconst (v := (-1)) C dX1_number_15 (by decide) ?_
    exact hR _ _ _ _ () dX1_number_16 (by rw [cNum, c4_1, cond_false] <;> rfl) (by show _ = cW K ad (cNum S s a k).2 X; rw [cNum, c4_1, cond_false] <;> rfl)
  · skip
    refine g_iload_n (i := 2) C dX1_number_7 rfl rfl ?_
    refine g_iload_n (i := 3) C dX1_number_8 rfl rfl ?_
    refine g_callS (av := [.int a, .int k]) C dX1_number_9 ln_X1_51 mf_X1_isFraction (kX1_isFraction K (cW K ad S X) a k) rfl rfl (Nat.le_of_ble_eq_true rfl) ⟨Nat.le_of_ble_eq_true rfl, Nat.le_of_ble_eq_true rfl⟩ ⟨Nat.zero_le _, Nat.zero_le _⟩ (fun _ => ?_)
    refine g_bz_ne (tgt := 17) C dX1_number_12 (by decide) (fun c12_2 => ?_) (fun c12_2 => ?_)
    · skip
      refine g_aload_n (i := 0) C dX1_number_17 rfl rfl ?_
      refine g_iload_n (i := 1) C dX1_number_18 rfl rfl ?_
      refine g_iload_n (i := 2) C dX1_number_19 rfl rfl ?_
      refine g_i2l (v := Int32.toInt64 a) C dX1_number_20 rfl ?_
      refine g_bipush (v := 23) C dX1_number_21 (by decide) ?_
      refine g_iload_n (i := 3) C dX1_number_23 rfl rfl ?_
      refine g_isub C dX1_number_24 ?_
      refine g_lshl (v := shlL (Int32.toInt64 a) (23 - k)) C dX1_number_25 rfl ?_
      refine g_callV (av := [.int s, .long (shlL (Int32.toInt64 a) (23 - k))]) C dX1_number_26 ln_X1_55 mf_X1_holdValue 0 rfl rfl (kX1_holdValue K ad S X s (shlL (Int32.toInt64 a) (23 - k)) c4_1) rfl rfl (Nat.le_of_ble_eq_true rfl) ⟨Nat.le_of_ble_eq_true rfl, Nat.le_of_ble_eq_true rfl⟩ ⟨Nat.zero_le _, Nat.zero_le _⟩ (fun _ => ?_)
      exact hR _ _ _ _ () dX1_number_29 (by rw [cNum, c4_1, cond_true, c12_2, cond_true] <;> rfl) (by show _ = cW K ad (cNum S s a k).2 X; rw [cNum, c4_1, cond_true, c12_2, cond_true] <;> rfl)
    · skip
      refine g_iconst (v := (-1)) C dX1_number_15 (by decide) ?_
      exact hR _ _ _ _ () dX1_number_16 (by rw [cNum, c4_1, cond_true, c12_2, cond_false] <;> rfl) (by show _ = cW K ad (cNum S s a k).2 X; rw [cNum, c4_1, cond_true, c12_2, cond_false] <;> rfl)

set_option maxHeartbeats 600000 in
set_option maxRecDepth 100000 in
theorem kX1_at (K : KT) (ad : Nat → Nat) (S : CS) (X : va_W) (s : Int32) (i : Int32) : ∀ lau : Launch, Con lau yX1_at cX1_at 3 (some .int) 2 42 K (cW K ad S X) (fun _ : Unit => cW K ad S X) [.ref (ad 0), .int s, .int i] (some (.int (cAt S s i))) := by
  refine conI (by decide) (Nat.le_of_ble_eq_true rfl) (fun E C hR => ?_)
  show G E K 0 0 (cW K ad S X) [(0, .ref (ad 0)), (1, .int s), (2, .int i)] 0 []
  refine g_iload_n (i := 1) C dX1_at_0 rfl rfl ?_
  refine g_callS (av := [.int s]) C dX1_at_1 ln_X1_43 mf_X1_isRegister (kX1_isRegister K (cW K ad S X) s) rfl rfl (Nat.le_of_ble_eq_true rfl) ⟨Nat.le_of_ble_eq_true rfl, Nat.le_of_ble_eq_true rfl⟩ ⟨Nat.zero_le _, Nat.zero_le _⟩ (fun _ => ?_)
  refine g_bz_eq (tgt := 12) C dX1_at_4 (by decide) (fun c4_1 => ?_) (fun c4_1 => ?_)
  · skip
    refine g_iconst (v := (-1)) C dX1_at_12 (by decide) ?_
    exact hR _ _ _ _ () dX1_at_13 (by simp [cAt, dyC, sgC, c4_1] <;> first | done | simp_all [bz, dyC, sgC]) (rfl)
  · skip
    refine g_iload_n (i := 2) C dX1_at_7 rfl rfl ?_
    refine g_iconst (v := (-1)) C dX1_at_8 (by decide) ?_
    refine g_icmp_ge (tgt := 14) C dX1_at_9 (by decide) (fun c9_2 => ?_) (fun c9_2 => ?_)
    · skip
      refine g_iload_n (i := 2) C dX1_at_14 rfl rfl ?_
      refine g_iconst (v := (-1)) C dX1_at_15 (by decide) ?_
      refine g_icmp_ne (tgt := 26) C dX1_at_16 (by decide) (fun c16_3 => ?_) (fun c16_3 => ?_)
      · skip
        refine g_iload_n (i := 2) C dX1_at_26 rfl rfl ?_
        refine g_aload_n (i := 0) C dX1_at_27 rfl rfl ?_
        refine g_get C dX1_at_28 fl_X1_11 0 rfl rfl ?_
        refine g_iload_n (i := 1) C dX1_at_31 rfl rfl ?_
        refine g_iald C dX1_at_32 1 rfl (isReg_in c4_1) ?_
        refine g_icmp_lt (tgt := 39) C dX1_at_33 (by decide) (fun c33_4 => ?_) (fun c33_4 => ?_)
        · skip
          refine g_aload_n (i := 0) C dX1_at_39 rfl rfl ?_
          refine g_get C dX1_at_40 fl_X1_15 0 rfl rfl ?_
          refine g_iload_n (i := 1) C dX1_at_43 rfl rfl ?_
          refine g_iald C dX1_at_44 2 rfl (isReg_in c4_1) ?_
          refine g_iload_n (i := 2) C dX1_at_45 rfl rfl ?_
          refine g_callS (av := [.int (S.2.2.2.1 s.toNatClampNeg), .int i]) C dX1_at_46 ln_X1_59 mf_X1_isPlus (kX1_isPlus K (cW K ad S X) (S.2.2.2.1 s.toNatClampNeg) i) rfl rfl (Nat.le_of_ble_eq_true rfl) ⟨Nat.le_of_ble_eq_true rfl, Nat.le_of_ble_eq_true rfl⟩ ⟨Nat.zero_le _, Nat.zero_le _⟩ (fun _ => ?_)
          refine g_bz_eq (tgt := 56) C dX1_at_49 (by decide) (fun c49_5 => ?_) (fun c49_5 => ?_)
          · skip
            refine g_iconst (v := 0) C dX1_at_56 (by decide) ?_
            exact hR _ _ _ _ () dX1_at_57 (by simp [cAt, dyC, sgC, c4_1, c9_2, c16_3, c33_4, c49_5] <;> first | done | simp_all [bz, dyC, sgC]) (rfl)
          · skip
            refine g_iconst (v := 1) C dX1_at_52 (by decide) ?_
            refine g_goto (tgt := 57) C dX1_at_53 (by decide) ?_
            exact hR _ _ _ _ () dX1_at_57 (by simp [cAt, dyC, sgC, c4_1, c9_2, c16_3, c33_4, c49_5] <;> first | done | simp_all [bz, dyC, sgC]) (rfl)
        · skip
          refine g_bipush (v := (-4)) C dX1_at_36 (by decide) ?_
          exact hR _ _ _ _ () dX1_at_38 (by simp [cAt, dyC, sgC, c4_1, c9_2, c16_3, c33_4] <;> first | done | simp_all [bz, dyC, sgC]) (rfl)
      · skip
        refine g_aload_n (i := 0) C dX1_at_19 rfl rfl ?_
        refine g_get C dX1_at_20 fl_X1_11 0 rfl rfl ?_
        refine g_iload_n (i := 1) C dX1_at_23 rfl rfl ?_
        refine g_iald C dX1_at_24 1 rfl (isReg_in c4_1) ?_
        exact hR _ _ _ _ () dX1_at_25 (by simp [cAt, dyC, sgC, c4_1, c9_2, c16_3] <;> first | done | simp_all [bz, dyC, sgC]) (rfl)
    · skip
      refine g_iconst (v := (-1)) C dX1_at_12 (by decide) ?_
      exact hR _ _ _ _ () dX1_at_13 (by simp [cAt, dyC, sgC, c4_1, c9_2] <;> first | done | simp_all [bz, dyC, sgC]) (rfl)

set_option maxHeartbeats 600000 in
set_option maxRecDepth 100000 in
theorem kX1_value (K : KT) (ad : Nat → Nat) (S : CS) (X : va_W) (s : Int32) (w : Int32) : ∀ lau : Launch, Con lau yX1_value cX1_value 3 (some .int) 4 86 K (cW K ad S X) (fun _ : Unit => cW K ad S X) [.ref (ad 0), .int s, .int w] (some (.int (cVal S s w))) := by
  refine conI (by decide) (Nat.le_of_ble_eq_true rfl) (fun E C hR => ?_)
  show G E K 0 0 (cW K ad S X) [(0, .ref (ad 0)), (1, .int s), (2, .int w)] 0 []
  refine g_iload_n (i := 1) C dX1_value_0 rfl rfl ?_
  refine g_callS (av := [.int s]) C dX1_value_1 ln_X1_43 mf_X1_isRegister (kX1_isRegister K (cW K ad S X) s) rfl rfl (Nat.le_of_ble_eq_true rfl) ⟨Nat.le_of_ble_eq_true rfl, Nat.le_of_ble_eq_true rfl⟩ ⟨Nat.zero_le _, Nat.zero_le _⟩ (fun _ => ?_)
  refine g_bz_eq (tgt := 16) C dX1_value_4 (by decide) (fun c4_1 => ?_) (fun c4_1 => ?_)
  · skip
    refine g_ldc (v := (-1000000000)) C dX1_value_16 kc_X1_62 ?_
    exact hR _ _ _ _ () dX1_value_18 (by rw [cVal, c4_1, cond_false] <;> rfl) (rfl)
  · skip
    refine g_iload_n (i := 2) C dX1_value_7 rfl rfl ?_
    refine g_if_lt (tgt := 16) C dX1_value_8 (by decide) (fun c8_2 => ?_) (fun c8_2 => ?_)
    · skip
      refine g_ldc (v := (-1000000000)) C dX1_value_16 kc_X1_62 ?_
      exact hR _ _ _ _ () dX1_value_18 (by rw [cVal, c4_1, cond_true, if_pos c8_2] <;> rfl) (rfl)
    · skip
      refine g_iload_n (i := 2) C dX1_value_11 rfl rfl ?_
      refine g_iconst (v := 1) C dX1_value_12 (by decide) ?_
      refine g_icmp_le (tgt := 19) C dX1_value_13 (by decide) (fun c13_3 => ?_) (fun c13_3 => ?_)
      · skip
        refine g_iload_n (i := 2) C dX1_value_19 rfl rfl ?_
        refine g_if_ne (tgt := 37) C dX1_value_20 (by decide) (fun c20_4 => ?_) (fun c20_4 => ?_)
        · skip
          refine g_aload_n (i := 0) C dX1_value_37 rfl rfl ?_
          refine g_get C dX1_value_38 fl_X1_18 0 rfl rfl ?_
          refine g_iload_n (i := 1) C dX1_value_41 rfl rfl ?_
          refine g_lald C dX1_value_42 3 rfl (isReg_in c4_1) ?_
          refine g_bipush (v := 23) C dX1_value_43 (by decide) ?_
          refine g_callS (av := [.long (S.2.2.2.2.1 s.toNatClampNeg), .int 23]) C dX1_value_45 ln_X1_67 mf_X1_leastBelow (kX1_leastBelow K (cW K ad S X) (S.2.2.2.2.1 s.toNatClampNeg) 23) rfl rfl (Nat.le_of_ble_eq_true rfl) ⟨Nat.le_of_ble_eq_true rfl, Nat.le_of_ble_eq_true rfl⟩ ⟨Nat.zero_le _, Nat.zero_le _⟩ (fun _ => ?_)
          exact hR _ _ _ _ () dX1_value_48 (by rw [cVal, c4_1, cond_true, if_neg c8_2, if_pos c13_3, if_neg c20_4] <;> rfl) (rfl)
        · skip
          refine g_aload_n (i := 0) C dX1_value_23 rfl rfl ?_
          refine g_get C dX1_value_24 fl_X1_18 0 rfl rfl ?_
          refine g_iload_n (i := 1) C dX1_value_27 rfl rfl ?_
          refine g_lald C dX1_value_28 3 rfl (isReg_in c4_1) ?_
          refine g_bipush (v := 23) C dX1_value_29 (by decide) ?_
          refine g_callS (av := [.long (S.2.2.2.2.1 s.toNatClampNeg), .int 23]) C dX1_value_31 ln_X1_63 mf_X1_leastAbove (kX1_leastAbove K (cW K ad S X) (S.2.2.2.2.1 s.toNatClampNeg) 23) rfl rfl (Nat.le_of_ble_eq_true rfl) ⟨Nat.le_of_ble_eq_true rfl, Nat.le_of_ble_eq_true rfl⟩ ⟨Nat.zero_le _, Nat.zero_le _⟩ (fun _ => ?_)
          refine g_goto (tgt := 48) C dX1_value_34 (by decide) ?_
          exact hR _ _ _ _ () dX1_value_48 (by rw [cVal, c4_1, cond_true, if_neg c8_2, if_pos c13_3, if_pos c20_4] <;> rfl) (rfl)
      · skip
        refine g_ldc (v := (-1000000000)) C dX1_value_16 kc_X1_62 ?_
        exact hR _ _ _ _ () dX1_value_18 (by rw [cVal, c4_1, cond_true, if_neg c8_2, if_neg c13_3] <;> rfl) (rfl)

set_option maxHeartbeats 600000 in
set_option maxRecDepth 100000 in
theorem kX1_against (K : KT) (ad : Nat → Nat) (S : CS) (X : va_W) (s : Int32) (t : Int32) : ∀ lau : Launch, Con lau yX1_against cX1_against 3 (some .int) 1 21 K (cW K ad S X) (fun _ : Unit => cW K ad S X) [.ref (ad 0), .int s, .int t] (some (.int (cAgn S s t))) := by
  refine conI (by decide) (Nat.le_of_ble_eq_true rfl) (fun E C hR => ?_)
  show G E K 0 0 (cW K ad S X) [(0, .ref (ad 0)), (1, .int s), (2, .int t)] 0 []
  refine g_iload_n (i := 1) C dX1_against_0 rfl rfl ?_
  refine g_callS (av := [.int s]) C dX1_against_1 ln_X1_43 mf_X1_isRegister (kX1_isRegister K (cW K ad S X) s) rfl rfl (Nat.le_of_ble_eq_true rfl) ⟨Nat.le_of_ble_eq_true rfl, Nat.le_of_ble_eq_true rfl⟩ ⟨Nat.zero_le _, Nat.zero_le _⟩ (fun _ => ?_)
  refine g_bz_eq (tgt := 14) C dX1_against_4 (by decide) (fun c4_1 => ?_) (fun c4_1 => ?_)
  · skip
    refine g_bipush (v := (-9)) C dX1_against_14 (by decide) ?_
    exact hR _ _ _ _ () dX1_against_16 (by rw [cAgn, c4_1, cond_false] <;> rfl) (rfl)
  · skip
    refine g_iload_n (i := 2) C dX1_against_7 rfl rfl ?_
    refine g_callS (av := [.int t]) C dX1_against_8 ln_X1_43 mf_X1_isRegister (kX1_isRegister K (cW K ad S X) t) rfl rfl (Nat.le_of_ble_eq_true rfl) ⟨Nat.le_of_ble_eq_true rfl, Nat.le_of_ble_eq_true rfl⟩ ⟨Nat.zero_le _, Nat.zero_le _⟩ (fun _ => ?_)
    refine g_bz_ne (tgt := 17) C dX1_against_11 (by decide) (fun c11_2 => ?_) (fun c11_2 => ?_)
    · skip
      refine g_aload_n (i := 0) C dX1_against_17 rfl rfl ?_
      refine g_get C dX1_against_18 fl_X1_18 0 rfl rfl ?_
      refine g_iload_n (i := 1) C dX1_against_21 rfl rfl ?_
      refine g_lald C dX1_against_22 3 rfl (isReg_in c4_1) ?_
      refine g_aload_n (i := 0) C dX1_against_23 rfl rfl ?_
      refine g_get C dX1_against_24 fl_X1_18 0 rfl rfl ?_
      refine g_iload_n (i := 2) C dX1_against_27 rfl rfl ?_
      refine g_lald C dX1_against_28 3 rfl (isReg_in c11_2) ?_
      refine g_lsub C dX1_against_29 ?_
      refine g_callS (av := [.long ((S.2.2.2.2.1 s.toNatClampNeg) - (S.2.2.2.2.1 t.toNatClampNeg))]) C dX1_against_30 ln_X1_70 mf_X1_signOf (kX1_signOf K (cW K ad S X) ((S.2.2.2.2.1 s.toNatClampNeg) - (S.2.2.2.2.1 t.toNatClampNeg))) rfl rfl (Nat.le_of_ble_eq_true rfl) ⟨Nat.le_of_ble_eq_true rfl, Nat.le_of_ble_eq_true rfl⟩ ⟨Nat.zero_le _, Nat.zero_le _⟩ (fun _ => ?_)
      exact hR _ _ _ _ () dX1_against_33 (by rw [cAgn, c4_1, cond_true, c11_2, cond_true] <;> rfl) (rfl)
    · skip
      refine g_bipush (v := (-9)) C dX1_against_14 (by decide) ?_
      exact hR _ _ _ _ () dX1_against_16 (by rw [cAgn, c4_1, cond_true, c11_2, cond_false] <;> rfl) (rfl)

set_option maxHeartbeats 600000 in
set_option maxRecDepth 100000 in
theorem kX1_work (K : KT) (ad : Nat → Nat) (S : CS) (X : va_W) (s : Int32) (how : Int32) (t : Int32) (u : Int32) : ∀ lau : Launch, Con lau yX1_work cX1_work 5 (some .int) 7 169 K (cW K ad S X) (fun _ : Unit => cW K ad ((cWork S s how t u).2) X) [.ref (ad 0), .int s, .int how, .int t, .int u] (some (.int ((cWork S s how t u).1))) := by
  refine conI (by decide) (Nat.le_of_ble_eq_true rfl) (fun E C hR => ?_)
  show G E K 0 0 (cW K ad S X) [(0, .ref (ad 0)), (1, .int s), (2, .int how), (3, .int t), (4, .int u)] 0 []
  refine g_iload_n (i := 1) C dX1_work_0 rfl rfl ?_
  refine g_callS (av := [.int s]) C dX1_work_1 ln_X1_43 mf_X1_isRegister (kX1_isRegister K (cW K ad S X) s) rfl rfl (Nat.le_of_ble_eq_true rfl) ⟨Nat.le_of_ble_eq_true rfl, Nat.le_of_ble_eq_true rfl⟩ ⟨Nat.zero_le _, Nat.zero_le _⟩ (fun _ => ?_)
  refine g_bz_eq (tgt := 23) C dX1_work_4 (by decide) (fun c4_1 => ?_) (fun c4_1 => ?_)
  · skip
    refine g_iconst (v := (-1)) C dX1_work_23 (by decide) ?_
    exact hR _ _ _ _ () dX1_work_24 (by rw [cWork, c4_1, cond_false] <;> rfl) (by show _ = cW K ad (cWork S s how t u).2 X; rw [cWork, c4_1, cond_false] <;> rfl)
  · skip
    refine g_iload_n (i := 2) C dX1_work_7 rfl rfl ?_
    refine g_if_lt (tgt := 23) C dX1_work_8 (by decide) (fun c8_2 => ?_) (fun c8_2 => ?_)
    · skip
      refine g_iconst (v := (-1)) C dX1_work_23 (by decide) ?_
      exact hR _ _ _ _ () dX1_work_24 (by rw [cWork, c4_1, cond_true, if_pos c8_2] <;> rfl) (by show _ = cW K ad (cWork S s how t u).2 X; rw [cWork, c4_1, cond_true, if_pos c8_2] <;> rfl)
    · skip
      refine g_iload_n (i := 2) C dX1_work_11 rfl rfl ?_
      refine g_iconst (v := 3) C dX1_work_12 (by decide) ?_
      refine g_icmp_gt (tgt := 23) C dX1_work_13 (by decide) (fun c13_3 => ?_) (fun c13_3 => ?_)
      · skip
        refine g_iconst (v := (-1)) C dX1_work_23 (by decide) ?_
        exact hR _ _ _ _ () dX1_work_24 (by rw [cWork, c4_1, cond_true, if_neg c8_2, if_pos c13_3] <;> rfl) (by show _ = cW K ad (cWork S s how t u).2 X; rw [cWork, c4_1, cond_true, if_neg c8_2, if_pos c13_3] <;> rfl)
      · skip
        refine g_iload_n (i := 3) C dX1_work_16 rfl rfl ?_
        refine g_callS (av := [.int t]) C dX1_work_17 ln_X1_43 mf_X1_isRegister (kX1_isRegister K (cW K ad S X) t) rfl rfl (Nat.le_of_ble_eq_true rfl) ⟨Nat.le_of_ble_eq_true rfl, Nat.le_of_ble_eq_true rfl⟩ ⟨Nat.zero_le _, Nat.zero_le _⟩ (fun _ => ?_)
        refine g_bz_ne (tgt := 25) C dX1_work_20 (by decide) (fun c20_4 => ?_) (fun c20_4 => ?_)
        · skip
          refine g_iload_n (i := 2) C dX1_work_25 rfl rfl ?_
          refine g_iconst (v := 3) C dX1_work_26 (by decide) ?_
          refine g_icmp_ne (tgt := 43) C dX1_work_27 (by decide) (fun c27_5 => ?_) (fun c27_5 => ?_)
          · skip
            refine g_iload C dX1_work_43 rfl ?_
            refine g_callS (av := [.int u]) C dX1_work_45 ln_X1_43 mf_X1_isRegister (kX1_isRegister K (cW K ad S X) u) rfl rfl (Nat.le_of_ble_eq_true rfl) ⟨Nat.le_of_ble_eq_true rfl, Nat.le_of_ble_eq_true rfl⟩ ⟨Nat.zero_le _, Nat.zero_le _⟩ (fun _ => ?_)
            refine g_bz_ne (tgt := 53) C dX1_work_48 (by decide) (fun c48_6 => ?_) (fun c48_6 => ?_)
            · skip
              refine g_iload_n (i := 2) C dX1_work_53 rfl rfl ?_
              refine g_iconst (v := 2) C dX1_work_54 (by decide) ?_
              refine g_icmp_ne (tgt := 78) C dX1_work_55 (by decide) (fun c55_7 => ?_) (fun c55_7 => ?_)
              · skip
                refine g_aload_n (i := 0) C dX1_work_78 rfl rfl ?_
                refine g_iload_n (i := 1) C dX1_work_79 rfl rfl ?_
                refine g_iload_n (i := 2) C dX1_work_80 rfl rfl ?_
                refine g_if_ne (tgt := 101) C dX1_work_81 (by decide) (fun c81_8 => ?_) (fun c81_8 => ?_)
                · skip
                  refine g_aload_n (i := 0) C dX1_work_101 rfl rfl ?_
                  refine g_get C dX1_work_102 fl_X1_18 0 rfl rfl ?_
                  refine g_iload_n (i := 3) C dX1_work_105 rfl rfl ?_
                  refine g_lald C dX1_work_106 3 rfl (isReg_in c20_4) ?_
                  refine g_aload_n (i := 0) C dX1_work_107 rfl rfl ?_
                  refine g_get C dX1_work_108 fl_X1_18 0 rfl rfl ?_
                  refine g_iload C dX1_work_111 rfl ?_
                  refine g_lald C dX1_work_113 3 rfl (isReg_in c48_6) ?_
                  refine g_lsub C dX1_work_114 ?_
                  refine g_callV (av := [.int s, .long ((S.2.2.2.2.1 t.toNatClampNeg) - (S.2.2.2.2.1 u.toNatClampNeg))]) C dX1_work_115 ln_X1_55 mf_X1_holdValue 0 rfl rfl (kX1_holdValue K ad S X s ((S.2.2.2.2.1 t.toNatClampNeg) - (S.2.2.2.2.1 u.toNatClampNeg)) c4_1) rfl rfl (Nat.le_of_ble_eq_true rfl) ⟨Nat.le_of_ble_eq_true rfl, Nat.le_of_ble_eq_true rfl⟩ ⟨Nat.zero_le _, Nat.zero_le _⟩ (fun _ => ?_)
                  exact hR _ _ _ _ () dX1_work_118 (by rw [cWork, c4_1, cond_true, if_neg c8_2, if_neg c13_3, c20_4, cond_true, if_neg c27_5, c48_6, cond_true, if_neg c55_7, if_neg c81_8] <;> rfl) (by show _ = cW K ad (cWork S s how t u).2 X; rw [cWork, c4_1, cond_true, if_neg c8_2, if_neg c13_3, c20_4, cond_true, if_neg c27_5, c48_6, cond_true, if_neg c55_7, if_neg c81_8] <;> rfl)
                · skip
                  refine g_aload_n (i := 0) C dX1_work_84 rfl rfl ?_
                  refine g_get C dX1_work_85 fl_X1_18 0 rfl rfl ?_
                  refine g_iload_n (i := 3) C dX1_work_88 rfl rfl ?_
                  refine g_lald C dX1_work_89 3 rfl (isReg_in c20_4) ?_
                  refine g_aload_n (i := 0) C dX1_work_90 rfl rfl ?_
                  refine g_get C dX1_work_91 fl_X1_18 0 rfl rfl ?_
                  refine g_iload C dX1_work_94 rfl ?_
                  refine g_lald C dX1_work_96 3 rfl (isReg_in c48_6) ?_
                  refine g_ladd C dX1_work_97 ?_
                  refine g_goto (tgt := 115) C dX1_work_98 (by decide) ?_
                  refine g_callV (av := [.int s, .long ((S.2.2.2.2.1 t.toNatClampNeg) + (S.2.2.2.2.1 u.toNatClampNeg))]) C dX1_work_115 ln_X1_55 mf_X1_holdValue 0 rfl rfl (kX1_holdValue K ad S X s ((S.2.2.2.2.1 t.toNatClampNeg) + (S.2.2.2.2.1 u.toNatClampNeg)) c4_1) rfl rfl (Nat.le_of_ble_eq_true rfl) ⟨Nat.le_of_ble_eq_true rfl, Nat.le_of_ble_eq_true rfl⟩ ⟨Nat.zero_le _, Nat.zero_le _⟩ (fun _ => ?_)
                  exact hR _ _ _ _ () dX1_work_118 (by rw [cWork, c4_1, cond_true, if_neg c8_2, if_neg c13_3, c20_4, cond_true, if_neg c27_5, c48_6, cond_true, if_neg c55_7, if_pos c81_8] <;> rfl) (by show _ = cW K ad (cWork S s how t u).2 X; rw [cWork, c4_1, cond_true, if_neg c8_2, if_neg c13_3, c20_4, cond_true, if_neg c27_5, c48_6, cond_true, if_neg c55_7, if_pos c81_8] <;> rfl)
              · skip
                refine g_aload_n (i := 0) C dX1_work_58 rfl rfl ?_
                refine g_iload_n (i := 1) C dX1_work_59 rfl rfl ?_
                refine g_aload_n (i := 0) C dX1_work_60 rfl rfl ?_
                refine g_get C dX1_work_61 fl_X1_18 0 rfl rfl ?_
                refine g_iload_n (i := 3) C dX1_work_64 rfl rfl ?_
                refine g_lald C dX1_work_65 3 rfl (isReg_in c20_4) ?_
                refine g_aload_n (i := 0) C dX1_work_66 rfl rfl ?_
                refine g_get C dX1_work_67 fl_X1_18 0 rfl rfl ?_
                refine g_iload C dX1_work_70 rfl ?_
                refine g_lald C dX1_work_72 3 rfl (isReg_in c48_6) ?_
                refine g_lmul C dX1_work_73 ?_
                refine g_callV (av := [.int s, .long ((S.2.2.2.2.1 t.toNatClampNeg) * (S.2.2.2.2.1 u.toNatClampNeg))]) C dX1_work_74 ln_X1_74 mf_X1_holdProduct 0 rfl rfl (kX1_holdProduct K ad S X s ((S.2.2.2.2.1 t.toNatClampNeg) * (S.2.2.2.2.1 u.toNatClampNeg)) c4_1) rfl rfl (Nat.le_of_ble_eq_true rfl) ⟨Nat.le_of_ble_eq_true rfl, Nat.le_of_ble_eq_true rfl⟩ ⟨Nat.zero_le _, Nat.zero_le _⟩ (fun _ => ?_)
                exact hR _ _ _ _ () dX1_work_77 (by rw [cWork, c4_1, cond_true, if_neg c8_2, if_neg c13_3, c20_4, cond_true, if_neg c27_5, c48_6, cond_true, if_pos c55_7] <;> rfl) (by show _ = cW K ad (cWork S s how t u).2 X; rw [cWork, c4_1, cond_true, if_neg c8_2, if_neg c13_3, c20_4, cond_true, if_neg c27_5, c48_6, cond_true, if_pos c55_7] <;> rfl)
            · skip
              refine g_iconst (v := (-1)) C dX1_work_51 (by decide) ?_
              exact hR _ _ _ _ () dX1_work_52 (by rw [cWork, c4_1, cond_true, if_neg c8_2, if_neg c13_3, c20_4, cond_true, if_neg c27_5, c48_6, cond_false] <;> rfl) (by show _ = cW K ad (cWork S s how t u).2 X; rw [cWork, c4_1, cond_true, if_neg c8_2, if_neg c13_3, c20_4, cond_true, if_neg c27_5, c48_6, cond_false] <;> rfl)
          · skip
            refine g_aload_n (i := 0) C dX1_work_30 rfl rfl ?_
            refine g_iload_n (i := 1) C dX1_work_31 rfl rfl ?_
            refine g_aload_n (i := 0) C dX1_work_32 rfl rfl ?_
            refine g_get C dX1_work_33 fl_X1_18 0 rfl rfl ?_
            refine g_iload_n (i := 3) C dX1_work_36 rfl rfl ?_
            refine g_lald C dX1_work_37 3 rfl (isReg_in c20_4) ?_
            refine g_lneg C dX1_work_38 ?_
            refine g_callV (av := [.int s, .long (-(S.2.2.2.2.1 t.toNatClampNeg))]) C dX1_work_39 ln_X1_55 mf_X1_holdValue 0 rfl rfl (kX1_holdValue K ad S X s (-(S.2.2.2.2.1 t.toNatClampNeg)) c4_1) rfl rfl (Nat.le_of_ble_eq_true rfl) ⟨Nat.le_of_ble_eq_true rfl, Nat.le_of_ble_eq_true rfl⟩ ⟨Nat.zero_le _, Nat.zero_le _⟩ (fun _ => ?_)
            exact hR _ _ _ _ () dX1_work_42 (by rw [cWork, c4_1, cond_true, if_neg c8_2, if_neg c13_3, c20_4, cond_true, if_pos c27_5] <;> rfl) (by show _ = cW K ad (cWork S s how t u).2 X; rw [cWork, c4_1, cond_true, if_neg c8_2, if_neg c13_3, c20_4, cond_true, if_pos c27_5] <;> rfl)
        · skip
          refine g_iconst (v := (-1)) C dX1_work_23 (by decide) ?_
          exact hR _ _ _ _ () dX1_work_24 (by rw [cWork, c4_1, cond_true, if_neg c8_2, if_neg c13_3, c20_4, cond_false] <;> rfl) (by show _ = cW K ad (cWork S s how t u).2 X; rw [cWork, c4_1, cond_true, if_neg c8_2, if_neg c13_3, c20_4, cond_false] <;> rfl)

set_option maxHeartbeats 600000 in
set_option maxRecDepth 100000 in
theorem kX1_pair (K : KT) (ad : Nat → Nat) (S : CS) (X : va_W) (w : Int32) : ∀ lau : Launch, Con lau yX1_pair cX1_pair 2 (some .int) 0 0 K (cW K ad S X) (fun _ : Unit => cW K ad S X) [.ref (ad 0), .int w] (some (.int (cPair S w))) := by
  refine conI (by decide) (Nat.le_of_ble_eq_true rfl) (fun E C hR => ?_)
  show G E K 0 0 (cW K ad S X) [(0, .ref (ad 0)), (1, .int w)] 0 []
  refine g_iload_n (i := 1) C dX1_pair_0 rfl rfl ?_
  refine g_if_lt (tgt := 9) C dX1_pair_1 (by decide) (fun c1_1 => ?_) (fun c1_1 => ?_)
  · skip
    refine g_iconst (v := (-1)) C dX1_pair_9 (by decide) ?_
    exact hR _ _ _ _ () dX1_pair_10 (by rw [cPair, if_pos c1_1] <;> rfl) (rfl)
  · skip
    refine g_iload_n (i := 1) C dX1_pair_4 rfl rfl ?_
    refine g_iconst (v := 1) C dX1_pair_5 (by decide) ?_
    refine g_icmp_le (tgt := 11) C dX1_pair_6 (by decide) (fun c6_2 => ?_) (fun c6_2 => ?_)
    · skip
      refine g_iload_n (i := 1) C dX1_pair_11 rfl rfl ?_
      refine g_if_ne (tgt := 22) C dX1_pair_12 (by decide) (fun c12_3 => ?_) (fun c12_3 => ?_)
      · skip
        refine g_aload_n (i := 0) C dX1_pair_22 rfl rfl ?_
        refine g_get C dX1_pair_23 fl_X1_26 0 rfl rfl ?_
        exact hR _ _ _ _ () dX1_pair_26 (by rw [cPair, if_neg c1_1, if_pos c6_2, if_neg c12_3] <;> rfl) (rfl)
      · skip
        refine g_aload_n (i := 0) C dX1_pair_15 rfl rfl ?_
        refine g_get C dX1_pair_16 fl_X1_22 0 rfl rfl ?_
        refine g_goto (tgt := 26) C dX1_pair_19 (by decide) ?_
        exact hR _ _ _ _ () dX1_pair_26 (by rw [cPair, if_neg c1_1, if_pos c6_2, if_pos c12_3] <;> rfl) (rfl)
    · skip
      refine g_iconst (v := (-1)) C dX1_pair_9 (by decide) ?_
      exact hR _ _ _ _ () dX1_pair_10 (by rw [cPair, if_neg c1_1, if_neg c6_2] <;> rfl) (rfl)
end
section
theorem lge {c i : Nat} (h : nI c ≤ nI i) (hc : c < 2 ^ 31) (hi : i < 2 ^ 31) : c ≤ i := nle h hc hi
def fpI (S : CS) (l r : Int32) (i : Nat) : Nat → Nat → Option Nat
  | 0, _ => none
  | f + 1, j => bif tb l (nI i) then (bif tb r (nI j) then (if S.2.2.2.2.1 i < S.2.2.2.2.1 j then fpI S l r i f (j + 1) else some j) else fpI S l r i f (j + 1)) else fpI S l r i f (j + 1)
def fpO (S : CS) (l r : Int32) : Nat → Nat → Option (Nat × Nat)
  | 0, _ => none
  | f + 1, i => match fpI S l r i 12 0 with
    | some j => some (i, j)
    | none => fpO S l r f (i + 1)
def cFP (S : CS) (l r : Int32) : Bool × CS := match fpO S l r 12 0 with
  | none => (false, S)
  | some q => (true, (nI q.1, nI q.2, S.2.2.1, S.2.2.2.1, S.2.2.2.2.1, S.2.2.2.2.2))
theorem fpI_s {S : CS} {l r : Int32} {i j : Nat} (h : j < 12) : fpI S l r i (12 - j) j = bif tb l (nI i) then (bif tb r (nI j) then (if S.2.2.2.2.1 i < S.2.2.2.2.1 j then fpI S l r i (12 - (j + 1)) (j + 1) else some j) else fpI S l r i (12 - (j + 1)) (j + 1)) else fpI S l r i (12 - (j + 1)) (j + 1) := by
  rw [show 12 - j = (12 - (j + 1)) + 1 from by omega]
  rfl
theorem fpO_n {S : CS} {l r : Int32} {i : Nat} (h : i < 12) (hn : fpI S l r i 12 0 = none) : fpO S l r (12 - i) i = fpO S l r (12 - (i + 1)) (i + 1) := by
  rw [show 12 - i = (12 - (i + 1)) + 1 from by omega, fpO, hn]
theorem fpO_y {S : CS} {l r : Int32} {i j : Nat} (h : i < 12) (hn : fpI S l r i 12 0 = some j) : fpO S l r (12 - i) i = some (i, j) := by
  rw [show 12 - i = (12 - (i + 1)) + 1 from by omega, fpO, hn]
def laA (S : CS) (l : Int32) : Nat → Int64
  | 0 => -9223372036854775808
  | i + 1 => bif tb l (nI i) then (if S.2.2.2.2.1 i + 1 < laA S l i then laA S l i else S.2.2.2.2.1 i + 1) else laA S l i
def gbA (S : CS) (l : Int32) : Nat → Int64
  | 0 => 9223372036854775807
  | i + 1 => bif tb l (nI i) then (if S.2.2.2.2.1 i - 1 < gbA S l i then S.2.2.2.2.1 i - 1 else gbA S l i) else gbA S l i
def cCut (S : CS) (s l r : Int32) : Int32 × CS := bif isReg s then bif areRg l then bif areRg r then (bif (cFP S l r).1 then (-2, (cFP S l r).2) else cHS (cFP S l r).2 s (laA (cFP S l r).2 l 12) (gbA (cFP S l r).2 r 12)) else (-1, S) else (-1, S) else (-1, S)
def trR (x : Int32) : Nat → Int32
  | 0 => 0
  | i + 1 => (trR x i <<< ((1 : Int32) &&& 31)) ||| (ushrI x (nI i) &&& 1)
def cBorn (S : CS) (s d i : Int32) : Int32 × CS := bif isReg s then bif isLd d then (if i < 0 then (-1, S) else if i < 1 <<< (d &&& 31) then (d, cHold S s d (trR i d.toNatClampNeg)) else (-1, S)) else (-1, S) else (-1, S)
def clL (x d : Int32) : Nat → Int32
  | 0 => 0
  | i + 1 => bif tb x (nI i) then clL x d i + (1 <<< ((d - nI i) &&& 31)) else clL x d i
def cCL (S : CS) (s d : Int32) : Int32 := if d < dyC S s then clL (sgC S s) d (min (dyC S s).toNatClampNeg (d.toNatClampNeg + 1)) else clL (sgC S s) d (min (dyC S s).toNatClampNeg (d.toNatClampNeg + 1)) + lowB (d - dyC S s)
def cBet (S : CS) (s t d : Int32) : Int32 := bif isReg s then bif isReg t then bif isLd d then (if vlC S s < vlC S t then cCL S t d - cCL S s d - bz (decide (dyC S s ≤ d)) else -2) else -1 else -1 else -1
def wnL (S : CS) (x : Int32) : Nat → Int32 × Int64
  | 0 => (0, 0)
  | i + 1 => bif tb x (nI i) then ((wnL S x i).1 + S.2.2.1 i, (wnL S x i).2 + S.2.2.2.2.1 i) else wnL S x i
def cWins (S : CS) (x w : Int32) : Int32 := bif areRg x then (if w < 0 then -1 else if w ≤ 1 then (if 4 < bcI x then -2 else if (wnL S x 12).1 ≤ 14 then (if w = 0 then (if (wnL S x 12).2 ≤ 0 then 0 else 1) else (bif decide ((wnL S x 12).2 < 0) then 1 else 0)) else -2) else -1) else -1
def sdL (x : Int32) (q : Bool) : Nat → Option Nat
  | 0 => none
  | n + 1 => bif tb x (nI n) == q then some n else sdL x q n
def cSide (S : CS) (s t d : Int32) : Int32 × CS := bif isReg s then bif isReg t then (if d < 0 then (-1, S) else if d ≤ 1 then (match sdL (sgC S t) (decide (d = 0)) (dyC S t).toNatClampNeg with
    | none => (-2, S)
    | some n => (nI n, cHold S s (nI n) (sgC S t &&& lowB (nI n)))) else (-1, S)) else (-1, S) else (-1, S)
theorem isLd_nn {d : Int32} (h : isLd d = true) : ¬ d < 0 := by
  simp only [isLd, Bool.and_eq_true, Bool.not_eq_true', decide_eq_false_iff_not] at h
  exact h.1
theorem isLd_k {d : Int32} (h : isLd d = true) : ∃ k : Nat, k ≤ 20 ∧ d = nI k := by
  simp only [isLd, Bool.and_eq_true, Bool.not_eq_true', decide_eq_false_iff_not] at h
  exact nI_of2 (M := 20) rfl h.1 (Int32.not_lt.mp h.2)
theorem dec1 (n : Nat) : nI n + Int32.ofInt (-1) = nI n - 1 := by
  rw [Int32.sub_eq_add_neg]; rfl
theorem dec0 {j : Nat} (h : ¬ nI j - 1 < 0) : ∃ i, j = i + 1 := by
  cases j with
  | zero => exact absurd (by decide) h
  | succ i => exact ⟨i, rfl⟩
theorem decn {j : Nat} (h : nI j - 1 < 0) (hj : j < 2 ^ 31) : j = 0 := by
  cases j with
  | zero => rfl
  | succ i => rw [nI_pred] at h; exact absurd h (nI_pos (by omega))
set_option maxHeartbeats 600000 in
set_option maxRecDepth 100000 in
theorem kX1_findPair (K : KT) (ad : Nat → Nat) (S : CS) (X : va_W) (l : Int32) (r : Int32) : ∀ lau : Launch, Con lau yX1_findPair cX1_findPair 5 (some .boolean) 1 21 K (cW K ad S X) (fun _ : Unit => cW K ad ((cFP S l r).2) X) [.ref (ad 0), .int l, .int r] (some (.int (bz (cFP S l r).1))) := by
  refine conZ (by decide) (Nat.le_of_ble_eq_true rfl) (fun E C hR => ?_)
  show G E K 0 0 (cW K ad S X) [(0, .ref (ad 0)), (1, .int l), (2, .int r)] 0 []
  refine g_iconst (v := 0) C dX1_findPair_0 (by decide) ?_
  refine g_istore_n (i := 3) (lv2 := [(0, .ref (ad 0)), (1, .int l), (2, .int r), (3, .int 0)]) C dX1_findPair_1 rfl (by decide) rfl ?_
  have lo : ∀ (fuel : Nat) (i : Nat), i ≤ 12 → 12 < i + fuel → fpO S l r (12 - i) i = fpO S l r 12 0 → G E K 0 0 (cW K ad S X) [(0, .ref (ad 0)), (1, .int l), (2, .int r), (3, .int (nI i))] 2 [] := by
    intro fuel
    induction fuel with
    | zero =>
      intro i hlo0 hlo1 hlo2
      omega
    | succ fuel ihlo =>
      intro i hlo0 hlo1 hlo2
      refine g_iload_n (i := 3) C dX1_findPair_2 rfl rfl ?_
      refine g_bipush (v := 12) C dX1_findPair_3 (by decide) ?_
      refine g_icmp_ge (tgt := 77) C dX1_findPair_5 (by decide) (fun c5_1 => ?_) (fun c5_1 => ?_)
      · skip
        have ei : i = 12 := by have := nle (a := 12) c5_1 (by decide) (by omega); omega
        refine g_iconst (v := 0) C dX1_findPair_77 (by decide) ?_
        exact hR _ _ _ _ () dX1_findPair_78 (by rw [cFP, ← hlo2, ei]; rfl) (by show _ = cW K ad (cFP S l r).2 X; rw [cFP, ← hlo2, ei]; rfl)
      · skip
        have ei : i < 12 := nlt (a := 12) c5_1 (by decide) (by omega)
        refine g_iconst (v := 0) C dX1_findPair_8 (by decide) ?_
        refine g_istore (lv2 := [(0, .ref (ad 0)), (1, .int l), (2, .int r), (3, .int (nI i)), (4, .int 0)]) C dX1_findPair_9 (by decide) rfl ?_
        have li : ∀ (fuel2 : Nat) (j : Nat), j ≤ 12 → 12 < j + fuel2 → fpI S l r i (12 - j) j = fpI S l r i 12 0 → G E K 0 0 (cW K ad S X) [(0, .ref (ad 0)), (1, .int l), (2, .int r), (3, .int (nI i)), (4, .int (nI j))] 11 [] := by
          intro fuel2
          induction fuel2 with
          | zero =>
            intro j hli0 hli1 hli2
            omega
          | succ fuel2 ihli =>
            intro j hli0 hli1 hli2
            refine g_iload C dX1_findPair_11 rfl ?_
            refine g_bipush (v := 12) C dX1_findPair_13 (by decide) ?_
            refine g_icmp_ge (tgt := 71) C dX1_findPair_15 (by decide) (fun c15_2 => ?_) (fun c15_2 => ?_)
            · skip
              have ej : j = 12 := by have := nle (a := 12) c15_2 (by decide) (by omega); omega
              refine g_iinc (v := nI (i + 1)) (lv2 := [(0, .ref (ad 0)), (1, .int l), (2, .int r), (3, .int (nI (i + 1))), (4, .int (nI j))]) C dX1_findPair_71 rfl (nI_inc i) (by decide) rfl ?_
              refine g_goto (tgt := 2) C dX1_findPair_74 (by decide) ?_
              exact g_lvs [0, 1, 2, 3] rfl (ihlo (i + 1) (by omega) (by omega) ((fpO_n ei (hli2.symm.trans (by rw [ej]; rfl))).symm.trans hlo2))
            · skip
              have ej : j < 12 := nlt (a := 12) c15_2 (by decide) (by omega)
              refine g_iload_n (i := 1) C dX1_findPair_18 rfl rfl ?_
              refine g_iload_n (i := 3) C dX1_findPair_19 rfl rfl ?_
              refine g_callS (av := [.int l, .int (nI i)]) C dX1_findPair_20 ln_X1_108 mf_X1_has (kX1_has K (cW K ad S X) l (nI i)) rfl rfl (Nat.le_of_ble_eq_true rfl) ⟨Nat.le_of_ble_eq_true rfl, Nat.le_of_ble_eq_true rfl⟩ ⟨Nat.zero_le _, Nat.zero_le _⟩ (fun _ => ?_)
              refine g_bz_eq (tgt := 65) C dX1_findPair_23 (by decide) (fun c23_3 => ?_) (fun c23_3 => ?_)
              · skip
                refine g_iinc (v := nI (j + 1)) (lv2 := [(0, .ref (ad 0)), (1, .int l), (2, .int r), (3, .int (nI i)), (4, .int (nI (j + 1)))]) C dX1_findPair_65 rfl (nI_inc j) (by decide) rfl ?_
                refine g_goto (tgt := 11) C dX1_findPair_68 (by decide) ?_
                exact g_lvs [0, 1, 2, 3, 4] rfl (ihli (j + 1) (by omega) (by omega) (by rw [← hli2, fpI_s (j := j) ej, c23_3, cond_false]))
              · skip
                refine g_iload_n (i := 2) C dX1_findPair_26 rfl rfl ?_
                refine g_iload C dX1_findPair_27 rfl ?_
                refine g_callS (av := [.int r, .int (nI j)]) C dX1_findPair_29 ln_X1_108 mf_X1_has (kX1_has K (cW K ad S X) r (nI j)) rfl rfl (Nat.le_of_ble_eq_true rfl) ⟨Nat.le_of_ble_eq_true rfl, Nat.le_of_ble_eq_true rfl⟩ ⟨Nat.zero_le _, Nat.zero_le _⟩ (fun _ => ?_)
                refine g_bz_eq (tgt := 65) C dX1_findPair_32 (by decide) (fun c32_4 => ?_) (fun c32_4 => ?_)
                · skip
                  refine g_iinc (v := nI (j + 1)) (lv2 := [(0, .ref (ad 0)), (1, .int l), (2, .int r), (3, .int (nI i)), (4, .int (nI (j + 1)))]) C dX1_findPair_65 rfl (nI_inc j) (by decide) rfl ?_
                  refine g_goto (tgt := 11) C dX1_findPair_68 (by decide) ?_
                  exact g_lvs [0, 1, 2, 3, 4] rfl (ihli (j + 1) (by omega) (by omega) (by rw [← hli2, fpI_s (j := j) ej, c23_3, cond_true, c32_4, cond_false]))
                · skip
                  refine g_aload_n (i := 0) C dX1_findPair_35 rfl rfl ?_
                  refine g_get C dX1_findPair_36 fl_X1_18 0 rfl rfl ?_
                  refine g_iload_n (i := 3) C dX1_findPair_39 rfl rfl ?_
                  refine g_lald C dX1_findPair_40 3 rfl (vp_in_nI (by omega) (by decide)) ?_
                  refine g_eql (congrArg S.2.2.2.2.1 (nI_clamp (by omega))) ?_
                  refine g_aload_n (i := 0) C dX1_findPair_41 rfl rfl ?_
                  refine g_get C dX1_findPair_42 fl_X1_18 0 rfl rfl ?_
                  refine g_iload C dX1_findPair_45 rfl ?_
                  refine g_lald C dX1_findPair_47 3 rfl (vp_in_nI (by omega) (by decide)) ?_
                  refine g_eql (congrArg S.2.2.2.2.1 (nI_clamp (by omega))) ?_
                  refine g_lcmp_lt (tgt := 65) C dX1_findPair_48 dX1_findPair_49 (by decide) (fun c48_5 => ?_) (fun c48_5 => ?_)
                  · skip
                    refine g_iinc (v := nI (j + 1)) (lv2 := [(0, .ref (ad 0)), (1, .int l), (2, .int r), (3, .int (nI i)), (4, .int (nI (j + 1)))]) C dX1_findPair_65 rfl (nI_inc j) (by decide) rfl ?_
                    refine g_goto (tgt := 11) C dX1_findPair_68 (by decide) ?_
                    exact g_lvs [0, 1, 2, 3, 4] rfl (ihli (j + 1) (by omega) (by omega) (by rw [← hli2, fpI_s (j := j) ej, c23_3, cond_true, c32_4, cond_true, if_pos c48_5]))
                  · skip
                    refine g_aload_n (i := 0) C dX1_findPair_52 rfl rfl ?_
                    refine g_iload_n (i := 3) C dX1_findPair_53 rfl rfl ?_
                    refine g_put (Wd2 := cW K ad (nI i, S.2.1, S.2.2.1, S.2.2.2.1, S.2.2.2.2.1, S.2.2.2.2.2) X) C dX1_findPair_54 fp_X1_22 0 rfl rfl rfl (Nat.le_of_ble_eq_true rfl) rfl ?_
                    refine g_aload_n (i := 0) C dX1_findPair_57 rfl rfl ?_
                    refine g_iload C dX1_findPair_58 rfl ?_
                    refine g_put (Wd2 := cW K ad (nI i, nI j, S.2.2.1, S.2.2.2.1, S.2.2.2.2.1, S.2.2.2.2.2) X) C dX1_findPair_60 fp_X1_26 0 rfl rfl rfl (Nat.le_of_ble_eq_true rfl) rfl ?_
                    refine g_iconst (v := 1) C dX1_findPair_63 (by decide) ?_
                    exact hR _ _ _ _ () dX1_findPair_64 (by rw [cFP, ← hlo2, fpO_y ei (by rw [← hli2, fpI_s (j := j) ej, c23_3, cond_true, c32_4, cond_true, if_neg c48_5])] <;> rfl) (by show _ = cW K ad (cFP S l r).2 X; rw [cFP, ← hlo2, fpO_y ei (by rw [← hli2, fpI_s (j := j) ej, c23_3, cond_true, c32_4, cond_true, if_neg c48_5])] <;> rfl)
        exact g_lvs [0, 1, 2, 3, 4] rfl (li 13 0 (by omega) (by omega) rfl)
  exact g_lvs [0, 1, 2, 3] rfl (lo 13 0 (by omega) (by omega) rfl)

set_option maxHeartbeats 600000 in
set_option maxRecDepth 100000 in
theorem kX1_leastAboveAll (K : KT) (ad : Nat → Nat) (S : CS) (X : va_W) (l : Int32) : ∀ lau : Launch, Con lau yX1_leastAboveAll cX1_leastAboveAll 5 (some .long) 1 21 K (cW K ad S X) (fun _ : Unit => cW K ad S X) [.ref (ad 0), .int l] (some (.long (laA S l 12))) := by
  refine conL (by decide) (Nat.le_of_ble_eq_true rfl) (fun E C hR => ?_)
  show G E K 0 0 (cW K ad S X) [(0, .ref (ad 0)), (1, .int l)] 0 []
  refine g_ldc2 (v := (-9223372036854775808)) C dX1_leastAboveAll_0 kc_X1_161 ?_
  refine g_lstore_n (i := 2) (lv2 := [(0, .ref (ad 0)), (1, .int l), (2, .long (-9223372036854775808))]) C dX1_leastAboveAll_3 rfl (by decide) rfl ?_
  refine g_iconst (v := 0) C dX1_leastAboveAll_4 (by decide) ?_
  refine g_istore (lv2 := [(0, .ref (ad 0)), (1, .int l), (2, .long (-9223372036854775808)), (4, .int 0)]) C dX1_leastAboveAll_5 (by decide) rfl ?_
  have lo : ∀ (fuel : Nat) (i : Nat) (a : Int64), i ≤ 12 → 12 < i + fuel → a = laA S l i → G E K 0 0 (cW K ad S X) [(0, .ref (ad 0)), (1, .int l), (2, .long a), (4, .int (nI i))] 7 [] := by
    intro fuel
    induction fuel with
    | zero =>
      intro i a hlo0 hlo1 hlo2
      omega
    | succ fuel ihlo =>
      intro i a hlo0 hlo1 hlo2
      refine g_iload C dX1_leastAboveAll_7 rfl ?_
      refine g_bipush (v := 12) C dX1_leastAboveAll_9 (by decide) ?_
      refine g_icmp_ge (tgt := 43) C dX1_leastAboveAll_11 (by decide) (fun c11_1 => ?_) (fun c11_1 => ?_)
      · skip
        have ei : i = 12 := by have := nle (a := 12) c11_1 (by decide) (by omega); omega
        refine g_lload_n (i := 2) C dX1_leastAboveAll_43 rfl rfl ?_
        exact hR _ _ _ _ () dX1_leastAboveAll_44 (by rw [hlo2, ei]) (rfl)
      · skip
        have ei : i < 12 := nlt (a := 12) c11_1 (by decide) (by omega)
        refine g_iload_n (i := 1) C dX1_leastAboveAll_14 rfl rfl ?_
        refine g_iload C dX1_leastAboveAll_15 rfl ?_
        refine g_callS (av := [.int l, .int (nI i)]) C dX1_leastAboveAll_17 ln_X1_108 mf_X1_has (kX1_has K (cW K ad S X) l (nI i)) rfl rfl (Nat.le_of_ble_eq_true rfl) ⟨Nat.le_of_ble_eq_true rfl, Nat.le_of_ble_eq_true rfl⟩ ⟨Nat.zero_le _, Nat.zero_le _⟩ (fun _ => ?_)
        refine g_bz_eq (tgt := 37) C dX1_leastAboveAll_20 (by decide) (fun c20_2 => ?_) (fun c20_2 => ?_)
        · skip
          refine g_iinc (v := nI (i + 1)) (lv2 := [(0, .ref (ad 0)), (1, .int l), (2, .long a), (4, .int (nI (i + 1)))]) C dX1_leastAboveAll_37 rfl (nI_inc i) (by decide) rfl ?_
          refine g_goto (tgt := 7) C dX1_leastAboveAll_40 (by decide) ?_
          exact g_lvs [0, 1, 2, 3] rfl (ihlo (i + 1) _ (by omega) (by omega) (by rw [laA, c20_2, cond_false, hlo2]))
        · skip
          refine g_lload_n (i := 2) C dX1_leastAboveAll_23 rfl rfl ?_
          refine g_aload_n (i := 0) C dX1_leastAboveAll_24 rfl rfl ?_
          refine g_get C dX1_leastAboveAll_25 fl_X1_18 0 rfl rfl ?_
          refine g_iload C dX1_leastAboveAll_28 rfl ?_
          refine g_lald C dX1_leastAboveAll_30 3 rfl (vp_in_nI (by omega) (by decide)) ?_
          refine g_eql (congrArg S.2.2.2.2.1 (nI_clamp (by omega))) ?_
          refine g_lconst (v := 1) C dX1_leastAboveAll_31 (by decide) ?_
          refine g_ladd C dX1_leastAboveAll_32 ?_
          refine g_mmaxL C dX1_leastAboveAll_33 ln_X1_190 ma_mmaxL_s it_J9 ma_mmaxL_c (Nat.le_of_ble_eq_true rfl) (Nat.le_of_ble_eq_true rfl) (Nat.le_refl _) (Nat.le_refl _) ?_
          refine g_lstore_n (i := 2) (lv2 := [(0, .ref (ad 0)), (1, .int l), (2, .long (if ((S.2.2.2.2.1 i) + 1) < a then a else (S.2.2.2.2.1 i) + 1)), (4, .int (nI i))]) C dX1_leastAboveAll_36 rfl (by decide) rfl ?_
          refine g_iinc (v := nI (i + 1)) (lv2 := [(0, .ref (ad 0)), (1, .int l), (2, .long (if ((S.2.2.2.2.1 i) + 1) < a then a else (S.2.2.2.2.1 i) + 1)), (4, .int (nI (i + 1)))]) C dX1_leastAboveAll_37 rfl (nI_inc i) (by decide) rfl ?_
          refine g_goto (tgt := 7) C dX1_leastAboveAll_40 (by decide) ?_
          exact g_lvs [0, 1, 2, 3] rfl (ihlo (i + 1) _ (by omega) (by omega) (by rw [laA, c20_2, cond_true, hlo2]))
  exact g_lvs [0, 1, 2, 3] rfl (lo 13 0 (-9223372036854775808) (by omega) (by omega) rfl)

set_option maxHeartbeats 600000 in
set_option maxRecDepth 100000 in
theorem kX1_greatestBelowAll (K : KT) (ad : Nat → Nat) (S : CS) (X : va_W) (l : Int32) : ∀ lau : Launch, Con lau yX1_greatestBelowAll cX1_greatestBelowAll 5 (some .long) 1 21 K (cW K ad S X) (fun _ : Unit => cW K ad S X) [.ref (ad 0), .int l] (some (.long (gbA S l 12))) := by
  refine conL (by decide) (Nat.le_of_ble_eq_true rfl) (fun E C hR => ?_)
  show G E K 0 0 (cW K ad S X) [(0, .ref (ad 0)), (1, .int l)] 0 []
  refine g_ldc2 (v := 9223372036854775807) C dX1_greatestBelowAll_0 kc_X1_193 ?_
  refine g_lstore_n (i := 2) (lv2 := [(0, .ref (ad 0)), (1, .int l), (2, .long 9223372036854775807)]) C dX1_greatestBelowAll_3 rfl (by decide) rfl ?_
  refine g_iconst (v := 0) C dX1_greatestBelowAll_4 (by decide) ?_
  refine g_istore (lv2 := [(0, .ref (ad 0)), (1, .int l), (2, .long 9223372036854775807), (4, .int 0)]) C dX1_greatestBelowAll_5 (by decide) rfl ?_
  have lo : ∀ (fuel : Nat) (i : Nat) (a : Int64), i ≤ 12 → 12 < i + fuel → a = gbA S l i → G E K 0 0 (cW K ad S X) [(0, .ref (ad 0)), (1, .int l), (2, .long a), (4, .int (nI i))] 7 [] := by
    intro fuel
    induction fuel with
    | zero =>
      intro i a hlo0 hlo1 hlo2
      omega
    | succ fuel ihlo =>
      intro i a hlo0 hlo1 hlo2
      refine g_iload C dX1_greatestBelowAll_7 rfl ?_
      refine g_bipush (v := 12) C dX1_greatestBelowAll_9 (by decide) ?_
      refine g_icmp_ge (tgt := 43) C dX1_greatestBelowAll_11 (by decide) (fun c11_1 => ?_) (fun c11_1 => ?_)
      · skip
        have ei : i = 12 := by have := nle (a := 12) c11_1 (by decide) (by omega); omega
        refine g_lload_n (i := 2) C dX1_greatestBelowAll_43 rfl rfl ?_
        exact hR _ _ _ _ () dX1_greatestBelowAll_44 (by rw [hlo2, ei]) (rfl)
      · skip
        have ei : i < 12 := nlt (a := 12) c11_1 (by decide) (by omega)
        refine g_iload_n (i := 1) C dX1_greatestBelowAll_14 rfl rfl ?_
        refine g_iload C dX1_greatestBelowAll_15 rfl ?_
        refine g_callS (av := [.int l, .int (nI i)]) C dX1_greatestBelowAll_17 ln_X1_108 mf_X1_has (kX1_has K (cW K ad S X) l (nI i)) rfl rfl (Nat.le_of_ble_eq_true rfl) ⟨Nat.le_of_ble_eq_true rfl, Nat.le_of_ble_eq_true rfl⟩ ⟨Nat.zero_le _, Nat.zero_le _⟩ (fun _ => ?_)
        refine g_bz_eq (tgt := 37) C dX1_greatestBelowAll_20 (by decide) (fun c20_2 => ?_) (fun c20_2 => ?_)
        · skip
          refine g_iinc (v := nI (i + 1)) (lv2 := [(0, .ref (ad 0)), (1, .int l), (2, .long a), (4, .int (nI (i + 1)))]) C dX1_greatestBelowAll_37 rfl (nI_inc i) (by decide) rfl ?_
          refine g_goto (tgt := 7) C dX1_greatestBelowAll_40 (by decide) ?_
          exact g_lvs [0, 1, 2, 3] rfl (ihlo (i + 1) _ (by omega) (by omega) (by rw [gbA, c20_2, cond_false, hlo2]))
        · skip
          refine g_lload_n (i := 2) C dX1_greatestBelowAll_23 rfl rfl ?_
          refine g_aload_n (i := 0) C dX1_greatestBelowAll_24 rfl rfl ?_
          refine g_get C dX1_greatestBelowAll_25 fl_X1_18 0 rfl rfl ?_
          refine g_iload C dX1_greatestBelowAll_28 rfl ?_
          refine g_lald C dX1_greatestBelowAll_30 3 rfl (vp_in_nI (by omega) (by decide)) ?_
          refine g_eql (congrArg S.2.2.2.2.1 (nI_clamp (by omega))) ?_
          refine g_lconst (v := 1) C dX1_greatestBelowAll_31 (by decide) ?_
          refine g_lsub C dX1_greatestBelowAll_32 ?_
          refine g_mminL C dX1_greatestBelowAll_33 ln_X1_195 ma_mminL_s it_J9 ma_mminL_c (Nat.le_of_ble_eq_true rfl) (Nat.le_of_ble_eq_true rfl) (Nat.le_refl _) (Nat.le_refl _) ?_
          refine g_lstore_n (i := 2) (lv2 := [(0, .ref (ad 0)), (1, .int l), (2, .long (if ((S.2.2.2.2.1 i) - 1) < a then (S.2.2.2.2.1 i) - 1 else a)), (4, .int (nI i))]) C dX1_greatestBelowAll_36 rfl (by decide) rfl ?_
          refine g_iinc (v := nI (i + 1)) (lv2 := [(0, .ref (ad 0)), (1, .int l), (2, .long (if ((S.2.2.2.2.1 i) - 1) < a then (S.2.2.2.2.1 i) - 1 else a)), (4, .int (nI (i + 1)))]) C dX1_greatestBelowAll_37 rfl (nI_inc i) (by decide) rfl ?_
          refine g_goto (tgt := 7) C dX1_greatestBelowAll_40 (by decide) ?_
          exact g_lvs [0, 1, 2, 3] rfl (ihlo (i + 1) _ (by omega) (by omega) (by rw [gbA, c20_2, cond_true, hlo2]))
  exact g_lvs [0, 1, 2, 3] rfl (lo 13 0 (9223372036854775807) (by omega) (by omega) rfl)

set_option maxHeartbeats 600000 in
set_option maxRecDepth 100000 in
theorem kX1_cut (K : KT) (ad : Nat → Nat) (S : CS) (X : va_W) (s : Int32) (l : Int32) (r : Int32) : ∀ lau : Launch, Con lau yX1_cut cX1_cut 4 (some .int) 5 123 K (cW K ad S X) (fun _ : Unit => cW K ad ((cCut S s l r).2) X) [.ref (ad 0), .int s, .int l, .int r] (some (.int ((cCut S s l r).1))) := by
  refine conI (by decide) (Nat.le_of_ble_eq_true rfl) (fun E C hR => ?_)
  show G E K 0 0 (cW K ad S X) [(0, .ref (ad 0)), (1, .int s), (2, .int l), (3, .int r)] 0 []
  refine g_iload_n (i := 1) C dX1_cut_0 rfl rfl ?_
  refine g_callS (av := [.int s]) C dX1_cut_1 ln_X1_43 mf_X1_isRegister (kX1_isRegister K (cW K ad S X) s) rfl rfl (Nat.le_of_ble_eq_true rfl) ⟨Nat.le_of_ble_eq_true rfl, Nat.le_of_ble_eq_true rfl⟩ ⟨Nat.zero_le _, Nat.zero_le _⟩ (fun _ => ?_)
  refine g_bz_eq (tgt := 21) C dX1_cut_4 (by decide) (fun c4_1 => ?_) (fun c4_1 => ?_)
  · skip
    refine g_iconst (v := (-1)) C dX1_cut_21 (by decide) ?_
    exact hR _ _ _ _ () dX1_cut_22 (by rw [cCut, c4_1, cond_false] <;> rfl) (by show _ = cW K ad (cCut S s l r).2 X; rw [cCut, c4_1, cond_false] <;> rfl)
  · skip
    refine g_iload_n (i := 2) C dX1_cut_7 rfl rfl ?_
    refine g_callS (av := [.int l]) C dX1_cut_8 ln_X1_81 mf_X1_areRegisters (kX1_areRegisters K (cW K ad S X) l) rfl rfl (Nat.le_of_ble_eq_true rfl) ⟨Nat.le_of_ble_eq_true rfl, Nat.le_of_ble_eq_true rfl⟩ ⟨Nat.zero_le _, Nat.zero_le _⟩ (fun _ => ?_)
    refine g_bz_eq (tgt := 21) C dX1_cut_11 (by decide) (fun c11_2 => ?_) (fun c11_2 => ?_)
    · skip
      refine g_iconst (v := (-1)) C dX1_cut_21 (by decide) ?_
      exact hR _ _ _ _ () dX1_cut_22 (by rw [cCut, c4_1, cond_true, c11_2, cond_false] <;> rfl) (by show _ = cW K ad (cCut S s l r).2 X; rw [cCut, c4_1, cond_true, c11_2, cond_false] <;> rfl)
    · skip
      refine g_iload_n (i := 3) C dX1_cut_14 rfl rfl ?_
      refine g_callS (av := [.int r]) C dX1_cut_15 ln_X1_81 mf_X1_areRegisters (kX1_areRegisters K (cW K ad S X) r) rfl rfl (Nat.le_of_ble_eq_true rfl) ⟨Nat.le_of_ble_eq_true rfl, Nat.le_of_ble_eq_true rfl⟩ ⟨Nat.zero_le _, Nat.zero_le _⟩ (fun _ => ?_)
      refine g_bz_ne (tgt := 23) C dX1_cut_18 (by decide) (fun c18_3 => ?_) (fun c18_3 => ?_)
      · skip
        refine g_aload_n (i := 0) C dX1_cut_23 rfl rfl ?_
        refine g_iload_n (i := 2) C dX1_cut_24 rfl rfl ?_
        refine g_iload_n (i := 3) C dX1_cut_25 rfl rfl ?_
        refine g_callV (av := [.int l, .int r]) C dX1_cut_26 ln_X1_84 mf_X1_findPair 0 rfl rfl (kX1_findPair K ad S X l r ) rfl rfl (Nat.le_of_ble_eq_true rfl) ⟨Nat.le_of_ble_eq_true rfl, Nat.le_of_ble_eq_true rfl⟩ ⟨Nat.zero_le _, Nat.zero_le _⟩ (fun _ => ?_)
        refine g_bz_eq (tgt := 35) C dX1_cut_29 (by decide) (fun c29_4 => ?_) (fun c29_4 => ?_)
        · skip
          refine g_aload_n (i := 0) C dX1_cut_35 rfl rfl ?_
          refine g_iload_n (i := 1) C dX1_cut_36 rfl rfl ?_
          refine g_aload_n (i := 0) C dX1_cut_37 rfl rfl ?_
          refine g_iload_n (i := 2) C dX1_cut_38 rfl rfl ?_
          refine g_callV (av := [.int l]) C dX1_cut_39 ln_X1_87 mf_X1_leastAboveAll 0 rfl rfl (kX1_leastAboveAll K ad ((cFP S l r).2) X l ) rfl rfl (Nat.le_of_ble_eq_true rfl) ⟨Nat.le_of_ble_eq_true rfl, Nat.le_of_ble_eq_true rfl⟩ ⟨Nat.zero_le _, Nat.zero_le _⟩ (fun _ => ?_)
          refine g_aload_n (i := 0) C dX1_cut_42 rfl rfl ?_
          refine g_iload_n (i := 3) C dX1_cut_43 rfl rfl ?_
          refine g_callV (av := [.int r]) C dX1_cut_44 ln_X1_91 mf_X1_greatestBelowAll 0 rfl rfl (kX1_greatestBelowAll K ad ((cFP S l r).2) X r ) rfl rfl (Nat.le_of_ble_eq_true rfl) ⟨Nat.le_of_ble_eq_true rfl, Nat.le_of_ble_eq_true rfl⟩ ⟨Nat.zero_le _, Nat.zero_le _⟩ (fun _ => ?_)
          refine g_callV (av := [.int s, .long (laA ((cFP S l r).2) l 12), .long (gbA ((cFP S l r).2) r 12)]) C dX1_cut_47 ln_X1_94 mf_X1_holdSimplest 0 rfl rfl (kX1_holdSimplest K ad ((cFP S l r).2) X s (laA ((cFP S l r).2) l 12) (gbA ((cFP S l r).2) r 12) c4_1) rfl rfl (Nat.le_of_ble_eq_true rfl) ⟨Nat.le_of_ble_eq_true rfl, Nat.le_of_ble_eq_true rfl⟩ ⟨Nat.zero_le _, Nat.zero_le _⟩ (fun _ => ?_)
          exact hR _ _ _ _ () dX1_cut_50 (by rw [cCut, c4_1, cond_true, c11_2, cond_true, c18_3, cond_true, c29_4, cond_false] <;> rfl) (by show _ = cW K ad (cCut S s l r).2 X; rw [cCut, c4_1, cond_true, c11_2, cond_true, c18_3, cond_true, c29_4, cond_false] <;> rfl)
        · skip
          refine g_bipush (v := (-2)) C dX1_cut_32 (by decide) ?_
          exact hR _ _ _ _ () dX1_cut_34 (by rw [cCut, c4_1, cond_true, c11_2, cond_true, c18_3, cond_true, c29_4, cond_true] <;> rfl) (by show _ = cW K ad (cCut S s l r).2 X; rw [cCut, c4_1, cond_true, c11_2, cond_true, c18_3, cond_true, c29_4, cond_true] <;> rfl)
      · skip
        refine g_iconst (v := (-1)) C dX1_cut_21 (by decide) ?_
        exact hR _ _ _ _ () dX1_cut_22 (by rw [cCut, c4_1, cond_true, c11_2, cond_true, c18_3, cond_false] <;> rfl) (by show _ = cW K ad (cCut S s l r).2 X; rw [cCut, c4_1, cond_true, c11_2, cond_true, c18_3, cond_false] <;> rfl)

set_option maxHeartbeats 600000 in
set_option maxRecDepth 100000 in
theorem kX1_turnedRound (K : KT) (Wd : va_W) (x : Int32) (n : Nat) (hn : n < 2 ^ 31) : ∀ lau : Launch, Con lau yX1_turnedRound cX1_turnedRound 4 (some .int) 0 0 K Wd (fun _ : Unit => Wd) [.int x, .int (nI n)] (some (.int (trR x n))) := by
  refine conI (by decide) (Nat.le_of_ble_eq_true rfl) (fun E C hR => ?_)
  show G E K 0 0 Wd [(0, .int x), (1, .int (nI n))] 0 []
  refine g_iconst (v := 0) C dX1_turnedRound_0 (by decide) ?_
  refine g_istore_n (i := 2) (lv2 := [(0, .int x), (1, .int (nI n)), (2, .int 0)]) C dX1_turnedRound_1 rfl (by decide) rfl ?_
  refine g_iconst (v := 0) C dX1_turnedRound_2 (by decide) ?_
  refine g_istore_n (i := 3) (lv2 := [(0, .int x), (1, .int (nI n)), (2, .int 0), (3, .int 0)]) C dX1_turnedRound_3 rfl (by decide) rfl ?_
  have lo : ∀ (fuel : Nat) (i : Nat) (a : Int32), i ≤ n → n < i + fuel → a = trR x i → G E K 0 0 Wd [(0, .int x), (1, .int (nI n)), (2, .int a), (3, .int (nI i))] 4 [] := by
    intro fuel
    induction fuel with
    | zero =>
      intro i a hlo0 hlo1 hlo2
      omega
    | succ fuel ihlo =>
      intro i a hlo0 hlo1 hlo2
      refine g_iload_n (i := 3) C dX1_turnedRound_4 rfl rfl ?_
      refine g_iload_n (i := 1) C dX1_turnedRound_5 rfl rfl ?_
      refine g_icmp_ge (tgt := 25) C dX1_turnedRound_6 (by decide) (fun c6_1 => ?_) (fun c6_1 => ?_)
      · skip
        refine g_iload_n (i := 2) C dX1_turnedRound_25 rfl rfl ?_
        exact hR _ _ _ _ () dX1_turnedRound_26 (by have e : i = n := Nat.le_antisymm hlo0 (nle c6_1 hn (by omega)); rw [hlo2, e]) (rfl)
      · skip
        refine g_iload_n (i := 2) C dX1_turnedRound_9 rfl rfl ?_
        refine g_iconst (v := 1) C dX1_turnedRound_10 (by decide) ?_
        refine g_ishl C dX1_turnedRound_11 ?_
        refine g_iload_n (i := 0) C dX1_turnedRound_12 rfl rfl ?_
        refine g_iload_n (i := 3) C dX1_turnedRound_13 rfl rfl ?_
        refine g_iushr (v := ushrI x (nI i)) C dX1_turnedRound_14 rfl ?_
        refine g_iconst (v := 1) C dX1_turnedRound_15 (by decide) ?_
        refine g_iand C dX1_turnedRound_16 ?_
        refine g_ior C dX1_turnedRound_17 ?_
        refine g_istore_n (i := 2) (lv2 := [(0, .int x), (1, .int (nI n)), (2, .int ((a <<< (1 &&& 31)) ||| ((ushrI x (nI i)) &&& 1))), (3, .int (nI i))]) C dX1_turnedRound_18 rfl (by decide) rfl ?_
        refine g_iinc (v := nI (i + 1)) (lv2 := [(0, .int x), (1, .int (nI n)), (2, .int ((a <<< (1 &&& 31)) ||| ((ushrI x (nI i)) &&& 1))), (3, .int (nI (i + 1)))]) C dX1_turnedRound_19 rfl (nI_inc i) (by decide) rfl ?_
        refine g_goto (tgt := 4) C dX1_turnedRound_22 (by decide) ?_
        exact g_lvs [0, 1, 2, 3] rfl (ihlo (i + 1) _ (nlt c6_1 hn (by omega)) (by omega) (by rw [trR, hlo2]))
  exact g_lvs [0, 1, 2, 3] rfl (lo (n + 1) 0 0 (by omega) (by omega) rfl)

theorem kX1_turnedRoundI (K : KT) (Wd : va_W) (x n : Int32) (h : ¬ n < 0) : ∀ l : Launch, Con l yX1_turnedRound cX1_turnedRound 4 (some .int) 0 0 K Wd (fun _ : Unit => Wd) [.int x, .int n] (some (.int (trR x n.toNatClampNeg))) := by
  obtain ⟨j, hj, rfl⟩ := nI_of h
  rw [nI_clamp hj]
  exact kX1_turnedRound K Wd x j hj

set_option maxHeartbeats 600000 in
set_option maxRecDepth 100000 in
theorem kX1_born (K : KT) (ad : Nat → Nat) (S : CS) (X : va_W) (s : Int32) (d : Int32) (i : Int32) : ∀ lau : Launch, Con lau yX1_born cX1_born 4 (some .int) 4 94 K (cW K ad S X) (fun _ : Unit => cW K ad ((cBorn S s d i).2) X) [.ref (ad 0), .int s, .int d, .int i] (some (.int ((cBorn S s d i).1))) := by
  refine conI (by decide) (Nat.le_of_ble_eq_true rfl) (fun E C hR => ?_)
  show G E K 0 0 (cW K ad S X) [(0, .ref (ad 0)), (1, .int s), (2, .int d), (3, .int i)] 0 []
  refine g_iload_n (i := 1) C dX1_born_0 rfl rfl ?_
  refine g_callS (av := [.int s]) C dX1_born_1 ln_X1_43 mf_X1_isRegister (kX1_isRegister K (cW K ad S X) s) rfl rfl (Nat.le_of_ble_eq_true rfl) ⟨Nat.le_of_ble_eq_true rfl, Nat.le_of_ble_eq_true rfl⟩ ⟨Nat.zero_le _, Nat.zero_le _⟩ (fun _ => ?_)
  refine g_bz_eq (tgt := 25) C dX1_born_4 (by decide) (fun c4_1 => ?_) (fun c4_1 => ?_)
  · skip
    refine g_iconst (v := (-1)) C dX1_born_25 (by decide) ?_
    exact hR _ _ _ _ () dX1_born_26 (by rw [cBorn, c4_1, cond_false] <;> rfl) (by show _ = cW K ad (cBorn S s d i).2 X; rw [cBorn, c4_1, cond_false] <;> rfl)
  · skip
    refine g_iload_n (i := 2) C dX1_born_7 rfl rfl ?_
    refine g_callS (av := [.int d]) C dX1_born_8 ln_X1_98 mf_X1_isListedDay (kX1_isListedDay K (cW K ad S X) d) rfl rfl (Nat.le_of_ble_eq_true rfl) ⟨Nat.le_of_ble_eq_true rfl, Nat.le_of_ble_eq_true rfl⟩ ⟨Nat.zero_le _, Nat.zero_le _⟩ (fun _ => ?_)
    refine g_bz_eq (tgt := 25) C dX1_born_11 (by decide) (fun c11_2 => ?_) (fun c11_2 => ?_)
    · skip
      refine g_iconst (v := (-1)) C dX1_born_25 (by decide) ?_
      exact hR _ _ _ _ () dX1_born_26 (by rw [cBorn, c4_1, cond_true, c11_2, cond_false] <;> rfl) (by show _ = cW K ad (cBorn S s d i).2 X; rw [cBorn, c4_1, cond_true, c11_2, cond_false] <;> rfl)
    · skip
      refine g_iload_n (i := 3) C dX1_born_14 rfl rfl ?_
      refine g_if_lt (tgt := 25) C dX1_born_15 (by decide) (fun c15_3 => ?_) (fun c15_3 => ?_)
      · skip
        refine g_iconst (v := (-1)) C dX1_born_25 (by decide) ?_
        exact hR _ _ _ _ () dX1_born_26 (by rw [cBorn, c4_1, cond_true, c11_2, cond_true, if_pos c15_3] <;> rfl) (by show _ = cW K ad (cBorn S s d i).2 X; rw [cBorn, c4_1, cond_true, c11_2, cond_true, if_pos c15_3] <;> rfl)
      · skip
        refine g_iload_n (i := 3) C dX1_born_18 rfl rfl ?_
        refine g_iconst (v := 1) C dX1_born_19 (by decide) ?_
        refine g_iload_n (i := 2) C dX1_born_20 rfl rfl ?_
        refine g_ishl C dX1_born_21 ?_
        refine g_icmp_lt (tgt := 27) C dX1_born_22 (by decide) (fun c22_4 => ?_) (fun c22_4 => ?_)
        · skip
          refine g_aload_n (i := 0) C dX1_born_27 rfl rfl ?_
          refine g_iload_n (i := 1) C dX1_born_28 rfl rfl ?_
          refine g_iload_n (i := 2) C dX1_born_29 rfl rfl ?_
          refine g_iload_n (i := 3) C dX1_born_30 rfl rfl ?_
          refine g_iload_n (i := 2) C dX1_born_31 rfl rfl ?_
          refine g_callS (av := [.int i, .int d]) C dX1_born_32 ln_X1_101 mf_X1_turnedRound (kX1_turnedRoundI K (cW K ad S X) i d (isLd_nn c11_2)) rfl rfl (Nat.le_of_ble_eq_true rfl) ⟨Nat.le_of_ble_eq_true rfl, Nat.le_of_ble_eq_true rfl⟩ ⟨Nat.zero_le _, Nat.zero_le _⟩ (fun _ => ?_)
          refine g_callV (av := [.int s, .int d, .int (trR i d.toNatClampNeg)]) C dX1_born_35 ln_X1_47 mf_X1_hold 0 rfl rfl (kX1_hold K ad S X s d (trR i d.toNatClampNeg) c4_1 (isLd_nn c11_2)) rfl rfl (Nat.le_of_ble_eq_true rfl) ⟨Nat.le_of_ble_eq_true rfl, Nat.le_of_ble_eq_true rfl⟩ ⟨Nat.zero_le _, Nat.zero_le _⟩ (fun _ => ?_)
          exact hR _ _ _ _ () dX1_born_38 (by rw [cBorn, c4_1, cond_true, c11_2, cond_true, if_neg c15_3, if_pos c22_4] <;> rfl) (by show _ = cW K ad (cBorn S s d i).2 X; rw [cBorn, c4_1, cond_true, c11_2, cond_true, if_neg c15_3, if_pos c22_4] <;> rfl)
        · skip
          refine g_iconst (v := (-1)) C dX1_born_25 (by decide) ?_
          exact hR _ _ _ _ () dX1_born_26 (by rw [cBorn, c4_1, cond_true, c11_2, cond_true, if_neg c15_3, if_neg c22_4] <;> rfl) (by show _ = cW K ad (cBorn S s d i).2 X; rw [cBorn, c4_1, cond_true, c11_2, cond_true, if_neg c15_3, if_neg c22_4] <;> rfl)

set_option maxHeartbeats 600000 in
set_option maxRecDepth 100000 in
theorem kX1_countLess (K : KT) (ad : Nat → Nat) (S : CS) (X : va_W) (s : Int32) (d0 : Int32) (hs : isReg s = true) (hd : ∃ k : Nat, k ≤ 24 ∧ dyC S s = nI k) (hdy : ∃ k : Nat, k ≤ 20 ∧ d0 = nI k) : ∀ lau : Launch, Con lau yX1_countLess cX1_countLess 5 (some .int) 2 42 K (cW K ad S X) (fun _ : Unit => cW K ad S X) [.ref (ad 0), .int s, .int d0] (some (.int (cCL S s d0))) := by
  refine conI (by decide) (Nat.le_of_ble_eq_true rfl) (fun E C hR => ?_)
  show G E K 0 0 (cW K ad S X) [(0, .ref (ad 0)), (1, .int s), (2, .int d0)] 0 []
  refine g_iconst (v := 0) C dX1_countLess_0 (by decide) ?_
  refine g_istore_n (i := 3) (lv2 := [(0, .ref (ad 0)), (1, .int s), (2, .int d0), (3, .int 0)]) C dX1_countLess_1 rfl (by decide) rfl ?_
  refine g_iconst (v := 0) C dX1_countLess_2 (by decide) ?_
  refine g_istore (lv2 := [(0, .ref (ad 0)), (1, .int s), (2, .int d0), (3, .int 0), (4, .int 0)]) C dX1_countLess_3 (by decide) rfl ?_
  obtain ⟨k, hk, ek⟩ := hd
  obtain ⟨d, hdd, rfl⟩ := hdy
  have lo : ∀ (fuel : Nat) (i : Nat) (a : Int32), i ≤ min k (d + 1) → min k (d + 1) < i + fuel → a = clL (sgC S s) (nI d) i → G E K 0 0 (cW K ad S X) [(0, .ref (ad 0)), (1, .int s), (2, .int (nI d)), (3, .int a), (4, .int (nI i))] 5 [] := by
    intro fuel
    induction fuel with
    | zero =>
      intro i a hlo0 hlo1 hlo2
      omega
    | succ fuel ihlo =>
      intro i a hlo0 hlo1 hlo2
      refine g_iload C dX1_countLess_5 rfl ?_
      refine g_aload_n (i := 0) C dX1_countLess_7 rfl rfl ?_
      refine g_get C dX1_countLess_8 fl_X1_11 0 rfl rfl ?_
      refine g_iload_n (i := 1) C dX1_countLess_11 rfl rfl ?_
      refine g_iald C dX1_countLess_12 1 rfl (isReg_in hs) ?_
      refine g_icmp_ge (tgt := 51) C dX1_countLess_13 (by decide) (fun c13_1 => ?_) (fun c13_1 => ?_)
      · skip
        rw [show S.2.2.1 s.toNatClampNeg = nI k from ek] at c13_1
        have ei : i = min k (d + 1) := by have := nle c13_1 (by omega) (by omega); omega
        refine g_aload_n (i := 0) C dX1_countLess_51 rfl rfl ?_
        refine g_get C dX1_countLess_52 fl_X1_11 0 rfl rfl ?_
        refine g_iload_n (i := 1) C dX1_countLess_55 rfl rfl ?_
        refine g_iald C dX1_countLess_56 1 rfl (isReg_in hs) ?_
        refine g_iload_n (i := 2) C dX1_countLess_57 rfl rfl ?_
        refine g_icmp_gt (tgt := 75) C dX1_countLess_58 (by decide) (fun c58_2 => ?_) (fun c58_2 => ?_)
        · skip
          refine g_iload_n (i := 3) C dX1_countLess_75 rfl rfl ?_
          exact hR _ _ _ _ () dX1_countLess_76 (by rw [cCL, if_pos (show nI d < dyC S s from c58_2), show dyC S s = nI k from ek, nI_clamp (by omega), nI_clamp (by omega), ← ei, ← hlo2] <;> (try rw [← ek]) <;> rfl) (rfl)
        · skip
          refine g_iload_n (i := 3) C dX1_countLess_61 rfl rfl ?_
          refine g_iload_n (i := 2) C dX1_countLess_62 rfl rfl ?_
          refine g_aload_n (i := 0) C dX1_countLess_63 rfl rfl ?_
          refine g_get C dX1_countLess_64 fl_X1_11 0 rfl rfl ?_
          refine g_iload_n (i := 1) C dX1_countLess_67 rfl rfl ?_
          refine g_iald C dX1_countLess_68 1 rfl (isReg_in hs) ?_
          refine g_isub C dX1_countLess_69 ?_
          refine g_callS (av := [.int ((nI d) - (S.2.2.1 s.toNatClampNeg))]) C dX1_countLess_70 ln_X1_77 mf_X1_lowBits (kX1_lowBits K (cW K ad S X) ((nI d) - (S.2.2.1 s.toNatClampNeg))) rfl rfl (Nat.le_of_ble_eq_true rfl) ⟨Nat.le_of_ble_eq_true rfl, Nat.le_of_ble_eq_true rfl⟩ ⟨Nat.zero_le _, Nat.zero_le _⟩ (fun _ => ?_)
          refine g_iadd C dX1_countLess_73 ?_
          refine g_istore_n (i := 3) (lv2 := [(0, .ref (ad 0)), (1, .int s), (2, .int (nI d)), (3, .int (a + (lowB ((nI d) - (S.2.2.1 s.toNatClampNeg))))), (4, .int (nI i))]) C dX1_countLess_74 rfl (by decide) rfl ?_
          refine g_iload_n (i := 3) C dX1_countLess_75 rfl rfl ?_
          exact hR _ _ _ _ () dX1_countLess_76 (by rw [cCL, if_neg (show ¬ nI d < dyC S s from c58_2), show dyC S s = nI k from ek, nI_clamp (by omega), nI_clamp (by omega), ← ei, ← hlo2] <;> (try rw [← ek]) <;> rfl) (rfl)
      · skip
        rw [show S.2.2.1 s.toNatClampNeg = nI k from ek] at c13_1
        have ei1 : i < k := nlt c13_1 (by omega) (by omega)
        refine g_iload C dX1_countLess_16 rfl ?_
        refine g_iload_n (i := 2) C dX1_countLess_18 rfl rfl ?_
        refine g_icmp_gt (tgt := 51) C dX1_countLess_19 (by decide) (fun c19_3 => ?_) (fun c19_3 => ?_)
        · skip
          have ei : i = min k (d + 1) := by have : d < i := (nI_ltI (by omega) (by omega)).mp c19_3; omega
          refine g_aload_n (i := 0) C dX1_countLess_51 rfl rfl ?_
          refine g_get C dX1_countLess_52 fl_X1_11 0 rfl rfl ?_
          refine g_iload_n (i := 1) C dX1_countLess_55 rfl rfl ?_
          refine g_iald C dX1_countLess_56 1 rfl (isReg_in hs) ?_
          refine g_iload_n (i := 2) C dX1_countLess_57 rfl rfl ?_
          refine g_icmp_gt (tgt := 75) C dX1_countLess_58 (by decide) (fun c58_4 => ?_) (fun c58_4 => ?_)
          · skip
            refine g_iload_n (i := 3) C dX1_countLess_75 rfl rfl ?_
            exact hR _ _ _ _ () dX1_countLess_76 (by rw [cCL, if_pos (show nI d < dyC S s from c58_4), show dyC S s = nI k from ek, nI_clamp (by omega), nI_clamp (by omega), ← ei, ← hlo2] <;> (try rw [← ek]) <;> rfl) (rfl)
          · skip
            refine g_iload_n (i := 3) C dX1_countLess_61 rfl rfl ?_
            refine g_iload_n (i := 2) C dX1_countLess_62 rfl rfl ?_
            refine g_aload_n (i := 0) C dX1_countLess_63 rfl rfl ?_
            refine g_get C dX1_countLess_64 fl_X1_11 0 rfl rfl ?_
            refine g_iload_n (i := 1) C dX1_countLess_67 rfl rfl ?_
            refine g_iald C dX1_countLess_68 1 rfl (isReg_in hs) ?_
            refine g_isub C dX1_countLess_69 ?_
            refine g_callS (av := [.int ((nI d) - (S.2.2.1 s.toNatClampNeg))]) C dX1_countLess_70 ln_X1_77 mf_X1_lowBits (kX1_lowBits K (cW K ad S X) ((nI d) - (S.2.2.1 s.toNatClampNeg))) rfl rfl (Nat.le_of_ble_eq_true rfl) ⟨Nat.le_of_ble_eq_true rfl, Nat.le_of_ble_eq_true rfl⟩ ⟨Nat.zero_le _, Nat.zero_le _⟩ (fun _ => ?_)
            refine g_iadd C dX1_countLess_73 ?_
            refine g_istore_n (i := 3) (lv2 := [(0, .ref (ad 0)), (1, .int s), (2, .int (nI d)), (3, .int (a + (lowB ((nI d) - (S.2.2.1 s.toNatClampNeg))))), (4, .int (nI i))]) C dX1_countLess_74 rfl (by decide) rfl ?_
            refine g_iload_n (i := 3) C dX1_countLess_75 rfl rfl ?_
            exact hR _ _ _ _ () dX1_countLess_76 (by rw [cCL, if_neg (show ¬ nI d < dyC S s from c58_4), show dyC S s = nI k from ek, nI_clamp (by omega), nI_clamp (by omega), ← ei, ← hlo2] <;> (try rw [← ek]) <;> rfl) (rfl)
        · skip
          have ei2 : i ≤ d := Nat.le_of_not_lt (fun q => c19_3 (nI_lt q (by omega)))
          refine g_aload_n (i := 0) C dX1_countLess_22 rfl rfl ?_
          refine g_get C dX1_countLess_23 fl_X1_15 0 rfl rfl ?_
          refine g_iload_n (i := 1) C dX1_countLess_26 rfl rfl ?_
          refine g_iald C dX1_countLess_27 2 rfl (isReg_in hs) ?_
          refine g_iload C dX1_countLess_28 rfl ?_
          refine g_callS (av := [.int (S.2.2.2.1 s.toNatClampNeg), .int (nI i)]) C dX1_countLess_30 ln_X1_59 mf_X1_isPlus (kX1_isPlus K (cW K ad S X) (S.2.2.2.1 s.toNatClampNeg) (nI i)) rfl rfl (Nat.le_of_ble_eq_true rfl) ⟨Nat.le_of_ble_eq_true rfl, Nat.le_of_ble_eq_true rfl⟩ ⟨Nat.zero_le _, Nat.zero_le _⟩ (fun _ => ?_)
          refine g_bz_eq (tgt := 45) C dX1_countLess_33 (by decide) (fun c33_5 => ?_) (fun c33_5 => ?_)
          · skip
            refine g_iinc (v := nI (i + 1)) (lv2 := [(0, .ref (ad 0)), (1, .int s), (2, .int (nI d)), (3, .int a), (4, .int (nI (i + 1)))]) C dX1_countLess_45 rfl (nI_inc i) (by decide) rfl ?_
            refine g_goto (tgt := 5) C dX1_countLess_48 (by decide) ?_
            exact g_lvs [0, 1, 2, 3, 4] rfl (ihlo (i + 1) _ (by omega) (by omega) (by rw [clL, show tb (sgC S s) (nI i) = false from c33_5, cond_false, hlo2]))
          · skip
            refine g_iload_n (i := 3) C dX1_countLess_36 rfl rfl ?_
            refine g_iconst (v := 1) C dX1_countLess_37 (by decide) ?_
            refine g_iload_n (i := 2) C dX1_countLess_38 rfl rfl ?_
            refine g_iload C dX1_countLess_39 rfl ?_
            refine g_isub C dX1_countLess_41 ?_
            refine g_ishl C dX1_countLess_42 ?_
            refine g_iadd C dX1_countLess_43 ?_
            refine g_istore_n (i := 3) (lv2 := [(0, .ref (ad 0)), (1, .int s), (2, .int (nI d)), (3, .int (a + (1 <<< (((nI d) - (nI i)) &&& 31)))), (4, .int (nI i))]) C dX1_countLess_44 rfl (by decide) rfl ?_
            refine g_iinc (v := nI (i + 1)) (lv2 := [(0, .ref (ad 0)), (1, .int s), (2, .int (nI d)), (3, .int (a + (1 <<< (((nI d) - (nI i)) &&& 31)))), (4, .int (nI (i + 1)))]) C dX1_countLess_45 rfl (nI_inc i) (by decide) rfl ?_
            refine g_goto (tgt := 5) C dX1_countLess_48 (by decide) ?_
            exact g_lvs [0, 1, 2, 3, 4] rfl (ihlo (i + 1) _ (by omega) (by omega) (by rw [clL, show tb (sgC S s) (nI i) = true from c33_5, cond_true, hlo2]))
  exact g_lvs [0, 1, 2, 3, 4] rfl (lo (min k (d + 1) + 1) 0 0 (by omega) (by omega) rfl)

set_option maxHeartbeats 600000 in
set_option maxRecDepth 100000 in
theorem kX1_between (K : KT) (ad : Nat → Nat) (S : CS) (X : va_W) (s : Int32) (t : Int32) (d : Int32) (hd : ∀ q : Int32, isReg q = true → ∃ k : Nat, k ≤ 24 ∧ dyC S q = nI k) : ∀ lau : Launch, Con lau yX1_between cX1_between 5 (some .int) 3 66 K (cW K ad S X) (fun _ : Unit => cW K ad S X) [.ref (ad 0), .int s, .int t, .int d] (some (.int (cBet S s t d))) := by
  refine conI (by decide) (Nat.le_of_ble_eq_true rfl) (fun E C hR => ?_)
  show G E K 0 0 (cW K ad S X) [(0, .ref (ad 0)), (1, .int s), (2, .int t), (3, .int d)] 0 []
  refine g_iload_n (i := 1) C dX1_between_0 rfl rfl ?_
  refine g_callS (av := [.int s]) C dX1_between_1 ln_X1_43 mf_X1_isRegister (kX1_isRegister K (cW K ad S X) s) rfl rfl (Nat.le_of_ble_eq_true rfl) ⟨Nat.le_of_ble_eq_true rfl, Nat.le_of_ble_eq_true rfl⟩ ⟨Nat.zero_le _, Nat.zero_le _⟩ (fun _ => ?_)
  refine g_bz_eq (tgt := 21) C dX1_between_4 (by decide) (fun c4_1 => ?_) (fun c4_1 => ?_)
  · skip
    refine g_iconst (v := (-1)) C dX1_between_21 (by decide) ?_
    exact hR _ _ _ _ () dX1_between_22 (by rw [cBet, c4_1, cond_false] <;> rfl) (rfl)
  · skip
    refine g_iload_n (i := 2) C dX1_between_7 rfl rfl ?_
    refine g_callS (av := [.int t]) C dX1_between_8 ln_X1_43 mf_X1_isRegister (kX1_isRegister K (cW K ad S X) t) rfl rfl (Nat.le_of_ble_eq_true rfl) ⟨Nat.le_of_ble_eq_true rfl, Nat.le_of_ble_eq_true rfl⟩ ⟨Nat.zero_le _, Nat.zero_le _⟩ (fun _ => ?_)
    refine g_bz_eq (tgt := 21) C dX1_between_11 (by decide) (fun c11_2 => ?_) (fun c11_2 => ?_)
    · skip
      refine g_iconst (v := (-1)) C dX1_between_21 (by decide) ?_
      exact hR _ _ _ _ () dX1_between_22 (by rw [cBet, c4_1, cond_true, c11_2, cond_false] <;> rfl) (rfl)
    · skip
      refine g_iload_n (i := 3) C dX1_between_14 rfl rfl ?_
      refine g_callS (av := [.int d]) C dX1_between_15 ln_X1_98 mf_X1_isListedDay (kX1_isListedDay K (cW K ad S X) d) rfl rfl (Nat.le_of_ble_eq_true rfl) ⟨Nat.le_of_ble_eq_true rfl, Nat.le_of_ble_eq_true rfl⟩ ⟨Nat.zero_le _, Nat.zero_le _⟩ (fun _ => ?_)
      refine g_bz_ne (tgt := 23) C dX1_between_18 (by decide) (fun c18_3 => ?_) (fun c18_3 => ?_)
      · skip
        refine g_aload_n (i := 0) C dX1_between_23 rfl rfl ?_
        refine g_get C dX1_between_24 fl_X1_18 0 rfl rfl ?_
        refine g_iload_n (i := 1) C dX1_between_27 rfl rfl ?_
        refine g_lald C dX1_between_28 3 rfl (isReg_in c4_1) ?_
        refine g_aload_n (i := 0) C dX1_between_29 rfl rfl ?_
        refine g_get C dX1_between_30 fl_X1_18 0 rfl rfl ?_
        refine g_iload_n (i := 2) C dX1_between_33 rfl rfl ?_
        refine g_lald C dX1_between_34 3 rfl (isReg_in c11_2) ?_
        refine g_lcmp_lt (tgt := 42) C dX1_between_35 dX1_between_36 (by decide) (fun c35_4 => ?_) (fun c35_4 => ?_)
        · skip
          refine g_aload_n (i := 0) C dX1_between_42 rfl rfl ?_
          refine g_get C dX1_between_43 fl_X1_11 0 rfl rfl ?_
          refine g_iload_n (i := 1) C dX1_between_46 rfl rfl ?_
          refine g_iald C dX1_between_47 1 rfl (isReg_in c4_1) ?_
          refine g_iload_n (i := 3) C dX1_between_48 rfl rfl ?_
          refine g_dia_icmp_gt (tgt := 56) C dX1_between_49 dX1_between_52 dX1_between_53 dX1_between_56 (by decide) (by decide) trivial ?_
          refine g_istore (lv2 := [(0, .ref (ad 0)), (1, .int s), (2, .int t), (3, .int d), (4, .int (bz (decide ((S.2.2.1 s.toNatClampNeg) ≤ d))))]) C dX1_between_57 (by decide) rfl ?_
          refine g_aload_n (i := 0) C dX1_between_59 rfl rfl ?_
          refine g_iload_n (i := 2) C dX1_between_60 rfl rfl ?_
          refine g_iload_n (i := 3) C dX1_between_61 rfl rfl ?_
          refine g_callV (av := [.int t, .int d]) C dX1_between_62 ln_X1_105 mf_X1_countLess 0 rfl rfl (kX1_countLess K ad S X t d c11_2 (hd _ c11_2) (isLd_k c18_3)) rfl rfl (Nat.le_of_ble_eq_true rfl) ⟨Nat.le_of_ble_eq_true rfl, Nat.le_of_ble_eq_true rfl⟩ ⟨Nat.zero_le _, Nat.zero_le _⟩ (fun _ => ?_)
          refine g_aload_n (i := 0) C dX1_between_65 rfl rfl ?_
          refine g_iload_n (i := 1) C dX1_between_66 rfl rfl ?_
          refine g_iload_n (i := 3) C dX1_between_67 rfl rfl ?_
          refine g_callV (av := [.int s, .int d]) C dX1_between_68 ln_X1_105 mf_X1_countLess 0 rfl rfl (kX1_countLess K ad S X s d c4_1 (hd _ c4_1) (isLd_k c18_3)) rfl rfl (Nat.le_of_ble_eq_true rfl) ⟨Nat.le_of_ble_eq_true rfl, Nat.le_of_ble_eq_true rfl⟩ ⟨Nat.zero_le _, Nat.zero_le _⟩ (fun _ => ?_)
          refine g_isub C dX1_between_71 ?_
          refine g_iload C dX1_between_72 rfl ?_
          refine g_isub C dX1_between_74 ?_
          exact hR _ _ _ _ () dX1_between_75 (by rw [cBet, c4_1, cond_true, c11_2, cond_true, c18_3, cond_true, if_pos c35_4] <;> rfl) (rfl)
        · skip
          refine g_bipush (v := (-2)) C dX1_between_39 (by decide) ?_
          exact hR _ _ _ _ () dX1_between_41 (by rw [cBet, c4_1, cond_true, c11_2, cond_true, c18_3, cond_true, if_neg c35_4] <;> rfl) (rfl)
      · skip
        refine g_iconst (v := (-1)) C dX1_between_21 (by decide) ?_
        exact hR _ _ _ _ () dX1_between_22 (by rw [cBet, c4_1, cond_true, c11_2, cond_true, c18_3, cond_false] <;> rfl) (rfl)

set_option maxHeartbeats 600000 in
set_option maxRecDepth 100000 in
theorem kX1_wins (K : KT) (ad : Nat → Nat) (S : CS) (X : va_W) (x : Int32) (w : Int32) : ∀ lau : Launch, Con lau yX1_wins cX1_wins 7 (some .int) 1 21 K (cW K ad S X) (fun _ : Unit => cW K ad S X) [.ref (ad 0), .int x, .int w] (some (.int (cWins S x w))) := by
  refine conI (by decide) (Nat.le_of_ble_eq_true rfl) (fun E C hR => ?_)
  show G E K 0 0 (cW K ad S X) [(0, .ref (ad 0)), (1, .int x), (2, .int w)] 0 []
  refine g_iload_n (i := 1) C dX1_wins_0 rfl rfl ?_
  refine g_callS (av := [.int x]) C dX1_wins_1 ln_X1_81 mf_X1_areRegisters (kX1_areRegisters K (cW K ad S X) x) rfl rfl (Nat.le_of_ble_eq_true rfl) ⟨Nat.le_of_ble_eq_true rfl, Nat.le_of_ble_eq_true rfl⟩ ⟨Nat.zero_le _, Nat.zero_le _⟩ (fun _ => ?_)
  refine g_bz_eq (tgt := 16) C dX1_wins_4 (by decide) (fun c4_1 => ?_) (fun c4_1 => ?_)
  · skip
    refine g_iconst (v := (-1)) C dX1_wins_16 (by decide) ?_
    exact hR _ _ _ _ () dX1_wins_17 (by rw [cWins, c4_1, cond_false] <;> rfl) (rfl)
  · skip
    refine g_iload_n (i := 2) C dX1_wins_7 rfl rfl ?_
    refine g_if_lt (tgt := 16) C dX1_wins_8 (by decide) (fun c8_2 => ?_) (fun c8_2 => ?_)
    · skip
      refine g_iconst (v := (-1)) C dX1_wins_16 (by decide) ?_
      exact hR _ _ _ _ () dX1_wins_17 (by rw [cWins, c4_1, cond_true, if_pos c8_2] <;> rfl) (rfl)
    · skip
      refine g_iload_n (i := 2) C dX1_wins_11 rfl rfl ?_
      refine g_iconst (v := 1) C dX1_wins_12 (by decide) ?_
      refine g_icmp_le (tgt := 18) C dX1_wins_13 (by decide) (fun c13_3 => ?_) (fun c13_3 => ?_)
      · skip
        refine g_iconst (v := 0) C dX1_wins_18 (by decide) ?_
        refine g_istore_n (i := 3) (lv2 := [(0, .ref (ad 0)), (1, .int x), (2, .int w), (3, .int 0)]) C dX1_wins_19 rfl (by decide) rfl ?_
        refine g_lconst (v := 0) C dX1_wins_20 (by decide) ?_
        refine g_lstore (lv2 := [(0, .ref (ad 0)), (1, .int x), (2, .int w), (3, .int 0), (4, .long 0)]) C dX1_wins_21 (by decide) rfl ?_
        refine g_iconst (v := 0) C dX1_wins_23 (by decide) ?_
        refine g_istore (lv2 := [(0, .ref (ad 0)), (1, .int x), (2, .int w), (3, .int 0), (4, .long 0), (6, .int 0)]) C dX1_wins_24 (by decide) rfl ?_
        have lo : ∀ (fuel : Nat) (i : Nat) (g : Int32) (a : Int64), i ≤ 12 → 12 < i + fuel → wnL S x i = (g, a) → G E K 0 0 (cW K ad S X) [(0, .ref (ad 0)), (1, .int x), (2, .int w), (3, .int g), (4, .long a), (6, .int (nI i))] 26 [] := by
          intro fuel
          induction fuel with
          | zero =>
            intro i g a hlo0 hlo1 hlo2
            omega
          | succ fuel ihlo =>
            intro i g a hlo0 hlo1 hlo2
            refine g_iload C dX1_wins_26 rfl ?_
            refine g_bipush (v := 12) C dX1_wins_28 (by decide) ?_
            refine g_icmp_ge (tgt := 70) C dX1_wins_30 (by decide) (fun c30_4 => ?_) (fun c30_4 => ?_)
            · skip
              have ei : i = 12 := by have := nle (a := 12) c30_4 (by decide) (by omega); omega
              refine g_iload_n (i := 1) C dX1_wins_70 rfl rfl ?_
              refine g_callS (av := [.int x]) C dX1_wins_71 ln_X1_111 mf_J6_bitCount_0f7a4 (kJ6_bitCount_0f7a4 K (cW K ad S X) x) rfl rfl (Nat.le_of_ble_eq_true rfl) ⟨Nat.le_of_ble_eq_true rfl, Nat.le_of_ble_eq_true rfl⟩ ⟨Nat.zero_le _, Nat.zero_le _⟩ (fun _ => ?_)
              refine g_iconst (v := 4) C dX1_wins_74 (by decide) ?_
              refine g_icmp_gt (tgt := 84) C dX1_wins_75 (by decide) (fun c75_5 => ?_) (fun c75_5 => ?_)
              · skip
                refine g_bipush (v := (-2)) C dX1_wins_84 (by decide) ?_
                exact hR _ _ _ _ () dX1_wins_86 (by subst ei; rw [cWins, hlo2, c4_1, cond_true, if_neg c8_2, if_pos c13_3, if_pos c75_5]) (rfl)
              · skip
                refine g_iload_n (i := 3) C dX1_wins_78 rfl rfl ?_
                refine g_bipush (v := 14) C dX1_wins_79 (by decide) ?_
                refine g_icmp_le (tgt := 87) C dX1_wins_81 (by decide) (fun c81_6 => ?_) (fun c81_6 => ?_)
                · skip
                  refine g_iload_n (i := 2) C dX1_wins_87 rfl rfl ?_
                  refine g_if_ne (tgt := 106) C dX1_wins_88 (by decide) (fun c88_7 => ?_) (fun c88_7 => ?_)
                  · skip
                    refine g_lload C dX1_wins_106 rfl ?_
                    refine g_lconst (v := 0) C dX1_wins_108 (by decide) ?_
                    refine g_dia_lcmp_ge (tgt := 117) C dX1_wins_109 dX1_wins_110 dX1_wins_113 dX1_wins_114 dX1_wins_117 (by decide) (by decide) trivial ?_
                    refine g_istore (lv2 := [(0, .ref (ad 0)), (1, .int x), (2, .int w), (3, .int g), (4, .long a), (6, .int (bz (decide (a < 0))))]) C dX1_wins_118 (by decide) rfl ?_
                    refine g_iload C dX1_wins_120 rfl ?_
                    refine g_bz_eq (tgt := 129) C dX1_wins_122 (by decide) (fun c122_8 => ?_) (fun c122_8 => ?_)
                    · skip
                      refine g_iconst (v := 0) C dX1_wins_129 (by decide) ?_
                      exact hR _ _ _ _ () dX1_wins_130 (by subst ei; rw [cWins, hlo2, c4_1, cond_true, if_neg c8_2, if_pos c13_3, if_neg c75_5, if_pos c81_6, if_neg c88_7, c122_8, cond_false]) (rfl)
                    · skip
                      refine g_iconst (v := 1) C dX1_wins_125 (by decide) ?_
                      refine g_goto (tgt := 130) C dX1_wins_126 (by decide) ?_
                      exact hR _ _ _ _ () dX1_wins_130 (by subst ei; rw [cWins, hlo2, c4_1, cond_true, if_neg c8_2, if_pos c13_3, if_neg c75_5, if_pos c81_6, if_neg c88_7, c122_8, cond_true]) (rfl)
                  · skip
                    refine g_lload C dX1_wins_91 rfl ?_
                    refine g_lconst (v := 0) C dX1_wins_93 (by decide) ?_
                    refine g_lcmp_le (tgt := 102) C dX1_wins_94 dX1_wins_95 (by decide) (fun c94_9 => ?_) (fun c94_9 => ?_)
                    · skip
                      refine g_iconst (v := 0) C dX1_wins_102 (by decide) ?_
                      refine g_goto (tgt := 118) C dX1_wins_103 (by decide) ?_
                      refine g_istore (lv2 := [(0, .ref (ad 0)), (1, .int x), (2, .int w), (3, .int g), (4, .long a), (6, .int 0)]) C dX1_wins_118 (by decide) rfl ?_
                      refine g_iload C dX1_wins_120 rfl ?_
                      refine g_if_eq (tgt := 129) C dX1_wins_122 (by decide) (fun _ => ?_) (fun q => absurd (by decide) q)
                      refine g_iconst (v := 0) C dX1_wins_129 (by decide) ?_
                      exact hR _ _ _ _ () dX1_wins_130 (by subst ei; rw [cWins, hlo2, c4_1, cond_true, if_neg c8_2, if_pos c13_3, if_neg c75_5, if_pos c81_6, if_pos c88_7, if_pos c94_9]) (rfl)
                    · skip
                      refine g_iconst (v := 1) C dX1_wins_98 (by decide) ?_
                      refine g_goto (tgt := 118) C dX1_wins_99 (by decide) ?_
                      refine g_istore (lv2 := [(0, .ref (ad 0)), (1, .int x), (2, .int w), (3, .int g), (4, .long a), (6, .int 1)]) C dX1_wins_118 (by decide) rfl ?_
                      refine g_iload C dX1_wins_120 rfl ?_
                      refine g_if_eq (tgt := 129) C dX1_wins_122 (by decide) (fun q => absurd q (by decide)) (fun _ => ?_)
                      refine g_iconst (v := 1) C dX1_wins_125 (by decide) ?_
                      refine g_goto (tgt := 130) C dX1_wins_126 (by decide) ?_
                      exact hR _ _ _ _ () dX1_wins_130 (by subst ei; rw [cWins, hlo2, c4_1, cond_true, if_neg c8_2, if_pos c13_3, if_neg c75_5, if_pos c81_6, if_pos c88_7, if_neg c94_9]) (rfl)
                · skip
                  refine g_bipush (v := (-2)) C dX1_wins_84 (by decide) ?_
                  exact hR _ _ _ _ () dX1_wins_86 (by subst ei; rw [cWins, hlo2, c4_1, cond_true, if_neg c8_2, if_pos c13_3, if_neg c75_5, if_neg c81_6]) (rfl)
            · skip
              have ei : i < 12 := nlt (a := 12) c30_4 (by decide) (by omega)
              refine g_iload_n (i := 1) C dX1_wins_33 rfl rfl ?_
              refine g_iload C dX1_wins_34 rfl ?_
              refine g_callS (av := [.int x, .int (nI i)]) C dX1_wins_36 ln_X1_108 mf_X1_has (kX1_has K (cW K ad S X) x (nI i)) rfl rfl (Nat.le_of_ble_eq_true rfl) ⟨Nat.le_of_ble_eq_true rfl, Nat.le_of_ble_eq_true rfl⟩ ⟨Nat.zero_le _, Nat.zero_le _⟩ (fun _ => ?_)
              refine g_bz_eq (tgt := 64) C dX1_wins_39 (by decide) (fun c39_10 => ?_) (fun c39_10 => ?_)
              · skip
                refine g_iinc (v := nI (i + 1)) (lv2 := [(0, .ref (ad 0)), (1, .int x), (2, .int w), (3, .int g), (4, .long a), (6, .int (nI (i + 1)))]) C dX1_wins_64 rfl (nI_inc i) (by decide) rfl ?_
                refine g_goto (tgt := 26) C dX1_wins_67 (by decide) ?_
                exact g_lvs [0, 1, 2, 3, 4, 5] rfl (ihlo (i + 1) _ _ (by omega) (by omega) (by rw [wnL, c39_10, cond_false, hlo2]))
              · skip
                refine g_iload_n (i := 3) C dX1_wins_42 rfl rfl ?_
                refine g_aload_n (i := 0) C dX1_wins_43 rfl rfl ?_
                refine g_get C dX1_wins_44 fl_X1_11 0 rfl rfl ?_
                refine g_iload C dX1_wins_47 rfl ?_
                refine g_iald C dX1_wins_49 1 rfl (vp_in_nI (by omega) (by decide)) ?_
                refine g_eqi (congrArg S.2.2.1 (nI_clamp (by omega))) ?_
                refine g_iadd C dX1_wins_50 ?_
                refine g_istore_n (i := 3) (lv2 := [(0, .ref (ad 0)), (1, .int x), (2, .int w), (3, .int (g + (S.2.2.1 i))), (4, .long a), (6, .int (nI i))]) C dX1_wins_51 rfl (by decide) rfl ?_
                refine g_lload C dX1_wins_52 rfl ?_
                refine g_aload_n (i := 0) C dX1_wins_54 rfl rfl ?_
                refine g_get C dX1_wins_55 fl_X1_18 0 rfl rfl ?_
                refine g_iload C dX1_wins_58 rfl ?_
                refine g_lald C dX1_wins_60 3 rfl (vp_in_nI (by omega) (by decide)) ?_
                refine g_eql (congrArg S.2.2.2.2.1 (nI_clamp (by omega))) ?_
                refine g_ladd C dX1_wins_61 ?_
                refine g_lstore (lv2 := [(0, .ref (ad 0)), (1, .int x), (2, .int w), (3, .int (g + (S.2.2.1 i))), (4, .long (a + (S.2.2.2.2.1 i))), (6, .int (nI i))]) C dX1_wins_62 (by decide) rfl ?_
                refine g_iinc (v := nI (i + 1)) (lv2 := [(0, .ref (ad 0)), (1, .int x), (2, .int w), (3, .int (g + (S.2.2.1 i))), (4, .long (a + (S.2.2.2.2.1 i))), (6, .int (nI (i + 1)))]) C dX1_wins_64 rfl (nI_inc i) (by decide) rfl ?_
                refine g_goto (tgt := 26) C dX1_wins_67 (by decide) ?_
                exact g_lvs [0, 1, 2, 3, 4, 5] rfl (ihlo (i + 1) _ _ (by omega) (by omega) (by rw [wnL, c39_10, cond_true, hlo2]))
        exact g_lvs [0, 1, 2, 3, 4, 5] rfl (lo 13 0 0 0 (by omega) (by omega) rfl)
      · skip
        refine g_iconst (v := (-1)) C dX1_wins_16 (by decide) ?_
        exact hR _ _ _ _ () dX1_wins_17 (by rw [cWins, c4_1, cond_true, if_neg c8_2, if_neg c13_3] <;> rfl) (rfl)

set_option maxHeartbeats 600000 in
set_option maxRecDepth 100000 in
theorem kX1_side (K : KT) (ad : Nat → Nat) (S : CS) (X : va_W) (s : Int32) (t : Int32) (d : Int32) (hd : ∀ q : Int32, isReg q = true → ∃ k : Nat, k ≤ 24 ∧ dyC S q = nI k) : ∀ lau : Launch, Con lau yX1_side cX1_side 6 (some .int) 4 94 K (cW K ad S X) (fun _ : Unit => cW K ad ((cSide S s t d).2) X) [.ref (ad 0), .int s, .int t, .int d] (some (.int ((cSide S s t d).1))) := by
  refine conI (by decide) (Nat.le_of_ble_eq_true rfl) (fun E C hR => ?_)
  show G E K 0 0 (cW K ad S X) [(0, .ref (ad 0)), (1, .int s), (2, .int t), (3, .int d)] 0 []
  refine g_iload_n (i := 1) C dX1_side_0 rfl rfl ?_
  refine g_callS (av := [.int s]) C dX1_side_1 ln_X1_43 mf_X1_isRegister (kX1_isRegister K (cW K ad S X) s) rfl rfl (Nat.le_of_ble_eq_true rfl) ⟨Nat.le_of_ble_eq_true rfl, Nat.le_of_ble_eq_true rfl⟩ ⟨Nat.zero_le _, Nat.zero_le _⟩ (fun _ => ?_)
  refine g_bz_eq (tgt := 23) C dX1_side_4 (by decide) (fun c4_1 => ?_) (fun c4_1 => ?_)
  · skip
    refine g_iconst (v := (-1)) C dX1_side_23 (by decide) ?_
    exact hR _ _ _ _ () dX1_side_24 (by rw [cSide, c4_1, cond_false] <;> rfl) (by show _ = cW K ad (cSide S s t d).2 X; rw [cSide, c4_1, cond_false] <;> rfl)
  · skip
    refine g_iload_n (i := 2) C dX1_side_7 rfl rfl ?_
    refine g_callS (av := [.int t]) C dX1_side_8 ln_X1_43 mf_X1_isRegister (kX1_isRegister K (cW K ad S X) t) rfl rfl (Nat.le_of_ble_eq_true rfl) ⟨Nat.le_of_ble_eq_true rfl, Nat.le_of_ble_eq_true rfl⟩ ⟨Nat.zero_le _, Nat.zero_le _⟩ (fun _ => ?_)
    refine g_bz_eq (tgt := 23) C dX1_side_11 (by decide) (fun c11_2 => ?_) (fun c11_2 => ?_)
    · skip
      refine g_iconst (v := (-1)) C dX1_side_23 (by decide) ?_
      exact hR _ _ _ _ () dX1_side_24 (by rw [cSide, c4_1, cond_true, c11_2, cond_false] <;> rfl) (by show _ = cW K ad (cSide S s t d).2 X; rw [cSide, c4_1, cond_true, c11_2, cond_false] <;> rfl)
    · skip
      refine g_iload_n (i := 3) C dX1_side_14 rfl rfl ?_
      refine g_if_lt (tgt := 23) C dX1_side_15 (by decide) (fun c15_3 => ?_) (fun c15_3 => ?_)
      · skip
        refine g_iconst (v := (-1)) C dX1_side_23 (by decide) ?_
        exact hR _ _ _ _ () dX1_side_24 (by rw [cSide, c4_1, cond_true, c11_2, cond_true, if_pos c15_3] <;> rfl) (by show _ = cW K ad (cSide S s t d).2 X; rw [cSide, c4_1, cond_true, c11_2, cond_true, if_pos c15_3] <;> rfl)
      · skip
        refine g_iload_n (i := 3) C dX1_side_18 rfl rfl ?_
        refine g_iconst (v := 1) C dX1_side_19 (by decide) ?_
        refine g_icmp_le (tgt := 25) C dX1_side_20 (by decide) (fun c20_4 => ?_) (fun c20_4 => ?_)
        · skip
          refine g_iload_n (i := 3) C dX1_side_25 rfl rfl ?_
          refine g_dia_if_ne (tgt := 33) C dX1_side_26 dX1_side_29 dX1_side_30 dX1_side_33 (by decide) (by decide) trivial ?_
          refine g_istore (lv2 := [(0, .ref (ad 0)), (1, .int s), (2, .int t), (3, .int d), (4, .int (bz (decide (d = 0))))]) C dX1_side_34 (by decide) rfl ?_
          refine g_aload_n (i := 0) C dX1_side_36 rfl rfl ?_
          refine g_get C dX1_side_37 fl_X1_11 0 rfl rfl ?_
          refine g_iload_n (i := 2) C dX1_side_40 rfl rfl ?_
          refine g_iald C dX1_side_41 1 rfl (isReg_in c11_2) ?_
          refine g_iconst (v := 1) C dX1_side_42 (by decide) ?_
          refine g_isub C dX1_side_43 ?_
          refine g_istore (lv2 := [(0, .ref (ad 0)), (1, .int s), (2, .int t), (3, .int d), (4, .int (bz (decide (d = 0)))), (5, .int ((S.2.2.1 t.toNatClampNeg) - 1))]) C dX1_side_44 (by decide) rfl ?_
          obtain ⟨k, hk, ek⟩ := hd t c11_2
          have lo : ∀ (fuel : Nat) (j : Nat) (v : Int32), j ≤ k → j < fuel → v = nI j - 1 → sdL (sgC S t) (decide (d = 0)) j = sdL (sgC S t) (decide (d = 0)) k → G E K 0 0 (cW K ad S X) [(0, .ref (ad 0)), (1, .int s), (2, .int t), (3, .int d), (4, .int (bz (decide (d = 0)))), (5, .int v)] 46 [] := by
            intro fuel
            induction fuel with
            | zero =>
              intro j v hlo0 hlo1 hlo2 hlo3
              omega
            | succ fuel ihlo =>
              intro j v hlo0 hlo1 hlo2 hlo3
              refine g_iload C dX1_side_46 rfl ?_
              refine g_if_lt (tgt := 93) C dX1_side_48 (by decide) (fun c48_5 => ?_) (fun c48_5 => ?_)
              · skip
                have ej : j = 0 := decn (by rw [← hlo2]; exact c48_5) (by omega)
                refine g_bipush (v := (-2)) C dX1_side_93 (by decide) ?_
                exact hR _ _ _ _ () dX1_side_95 (by subst ej; rw [cSide, c4_1, cond_true, c11_2, cond_true, if_neg c15_3, if_pos c20_4, ek, nI_clamp (by omega), ← hlo3] <;> rfl) (by show _ = cW K ad (cSide S s t d).2 X; subst ej; rw [cSide, c4_1, cond_true, c11_2, cond_true, if_neg c15_3, if_pos c20_4, ek, nI_clamp (by omega), ← hlo3] <;> rfl)
              · skip
                obtain ⟨j2, rfl⟩ := dec0 (j := j) (by rw [← hlo2]; exact c48_5)
                rw [nI_pred] at hlo2
                subst hlo2
                skip
                refine g_aload_n (i := 0) C dX1_side_51 rfl rfl ?_
                refine g_get C dX1_side_52 fl_X1_15 0 rfl rfl ?_
                refine g_iload_n (i := 2) C dX1_side_55 rfl rfl ?_
                refine g_iald C dX1_side_56 2 rfl (isReg_in c11_2) ?_
                refine g_iload C dX1_side_57 rfl ?_
                refine g_callS (av := [.int (S.2.2.2.1 t.toNatClampNeg), .int (nI j2)]) C dX1_side_59 ln_X1_59 mf_X1_isPlus (kX1_isPlus K (cW K ad S X) (S.2.2.2.1 t.toNatClampNeg) (nI j2)) rfl rfl (Nat.le_of_ble_eq_true rfl) ⟨Nat.le_of_ble_eq_true rfl, Nat.le_of_ble_eq_true rfl⟩ ⟨Nat.zero_le _, Nat.zero_le _⟩ (fun _ => ?_)
                refine g_iload C dX1_side_62 rfl ?_
                refine g_bzcmp_ne (tgt := 87) C dX1_side_64 (by decide) (fun c64_6 => ?_) (fun c64_6 => ?_)
                · skip
                  refine g_iinc (v := (nI j2) + Int32.ofInt (-1)) (lv2 := [(0, .ref (ad 0)), (1, .int s), (2, .int t), (3, .int d), (4, .int (bz (decide (d = 0)))), (5, .int ((nI j2) + Int32.ofInt (-1)))]) C dX1_side_87 rfl rfl (by decide) rfl ?_
                  refine g_goto (tgt := 46) C dX1_side_90 (by decide) ?_
                  exact g_lvs [0, 1, 2, 3, 4, 5] rfl (ihlo j2 _ (by omega) (by omega) (dec1 j2) (by rw [← hlo3, sdL, show (tb (sgC S t) (nI j2) == decide (d = 0)) = false from c64_6, cond_false]))
                · skip
                  refine g_aload_n (i := 0) C dX1_side_67 rfl rfl ?_
                  refine g_iload_n (i := 1) C dX1_side_68 rfl rfl ?_
                  refine g_iload C dX1_side_69 rfl ?_
                  refine g_aload_n (i := 0) C dX1_side_71 rfl rfl ?_
                  refine g_get C dX1_side_72 fl_X1_15 0 rfl rfl ?_
                  refine g_iload_n (i := 2) C dX1_side_75 rfl rfl ?_
                  refine g_iald C dX1_side_76 2 rfl (isReg_in c11_2) ?_
                  refine g_iload C dX1_side_77 rfl ?_
                  refine g_callS (av := [.int (nI j2)]) C dX1_side_79 ln_X1_77 mf_X1_lowBits (kX1_lowBits K (cW K ad S X) (nI j2)) rfl rfl (Nat.le_of_ble_eq_true rfl) ⟨Nat.le_of_ble_eq_true rfl, Nat.le_of_ble_eq_true rfl⟩ ⟨Nat.zero_le _, Nat.zero_le _⟩ (fun _ => ?_)
                  refine g_iand C dX1_side_82 ?_
                  refine g_callV (av := [.int s, .int (nI j2), .int ((S.2.2.2.1 t.toNatClampNeg) &&& (lowB (nI j2)))]) C dX1_side_83 ln_X1_47 mf_X1_hold 0 rfl rfl (kX1_hold K ad S X s (nI j2) ((S.2.2.2.1 t.toNatClampNeg) &&& (lowB (nI j2))) c4_1 (nI_pos (by omega))) rfl rfl (Nat.le_of_ble_eq_true rfl) ⟨Nat.le_of_ble_eq_true rfl, Nat.le_of_ble_eq_true rfl⟩ ⟨Nat.zero_le _, Nat.zero_le _⟩ (fun _ => ?_)
                  exact hR _ _ _ _ () dX1_side_86 (by rw [cSide, c4_1, cond_true, c11_2, cond_true, if_neg c15_3, if_pos c20_4, ek, nI_clamp (by omega), ← hlo3, sdL, show (tb (sgC S t) (nI j2) == decide (d = 0)) = true from c64_6, cond_true] <;> rfl) (by show _ = cW K ad (cSide S s t d).2 X; rw [cSide, c4_1, cond_true, c11_2, cond_true, if_neg c15_3, if_pos c20_4, ek, nI_clamp (by omega), ← hlo3, sdL, show (tb (sgC S t) (nI j2) == decide (d = 0)) = true from c64_6, cond_true] <;> rfl)
          exact g_lvs [0, 1, 2, 3, 4, 5] rfl (lo (k + 1) k _ (Nat.le_refl _) (by omega) (by rw [show S.2.2.1 t.toNatClampNeg = nI k from ek]) rfl)
        · skip
          refine g_iconst (v := (-1)) C dX1_side_23 (by decide) ?_
          exact hR _ _ _ _ () dX1_side_24 (by rw [cSide, c4_1, cond_true, c11_2, cond_true, if_neg c15_3, if_neg c20_4] <;> rfl) (by show _ = cW K ad (cSide S s t d).2 X; rw [cSide, c4_1, cond_true, c11_2, cond_true, if_neg c15_3, if_neg c20_4] <;> rfl)
end
section
abbrev fC (S : CS) : Nat → Nat → Int64 := S.2.2.2.2.2
abbrev sF (S : CS) (F : Nat → Nat → Int64) : CS := (S.1, S.2.1, S.2.2.1, S.2.2.2.1, S.2.2.2.2.1, F)
def cU (K : KT) (ad : Nat → Nat) (S : CS) (z : Nat) (g : Nat → Int64) (X : va_W) : va_W := cW K ad (sF S (uF (fC S) z g)) X
theorem uF_s {F : Nat → Nat → Int64} {z : Nat} {g : Nat → Int64} : uF F z g z = g := if_pos rfl
theorem uF_n {F : Nat → Nat → Int64} {z y : Nat} {g : Nat → Int64} (h : y ≠ z) : uF F z g y = F y := if_neg h
theorem uF_id {F : Nat → Nat → Int64} {z : Nat} : uF F z (F z) = F := by
  funext y
  by_cases h : y = z
  · rw [h, uF_s]
  · rw [uF_n h]
theorem uF_uF {F : Nat → Nat → Int64} {z : Nat} {g h : Nat → Int64} : uF (uF F z g) z h = uF F z h := by
  funext y
  by_cases e : y = z
  · rw [e, uF_s, uF_s]
  · rw [uF_n e, uF_n e, uF_n e]
theorem uF_comm {F : Nat → Nat → Int64} {z y : Nat} {g h : Nat → Int64} (e : z ≠ y) : uF (uF F z g) y h = uF (uF F y h) z g := by
  funext w
  by_cases e1 : w = y
  · rw [e1, uF_s, uF_n (Ne.symm e), uF_s]
  · by_cases e2 : w = z
    · rw [e2, uF_s, uF_n e, uF_s]
    · rw [uF_n e1, uF_n e2, uF_n e2, uF_n e1]
theorem cU_in {K : KT} {ad : Nat → Nat} {S : CS} {z : Nat} {X : va_W} : cW K ad S X = cU K ad S z (fC S z) X := by
  unfold cU; rw [uF_id]
theorem cU_A {K : KT} {ad : Nat → Nat} {S : CS} {z : Nat} {g : Nat → Int64} {X : va_W} (h : z < 10) : (cU K ad S z g X)[15 + z]? = some (aJ K (ad (15 + z)) 13 g) := by
  unfold cU; rw [cW_A h]; show some (aJ K (ad (15 + z)) 13 (uF (fC S) z g z)) = _; rw [uF_s]
theorem cU_An {K : KT} {ad : Nat → Nat} {S : CS} {z y : Nat} {g : Nat → Int64} {X : va_W} (h : y < 10) (hn : y ≠ z) : (cU K ad S z g X)[15 + y]? = some (aJ K (ad (15 + y)) 13 (fC S y)) := by
  unfold cU; rw [cW_A h]; show some (aJ K (ad (15 + y)) 13 (uF (fC S) z g y)) = _; rw [uF_n hn]
theorem cU_S {K : KT} {ad : Nat → Nat} {S : CS} {z y : Nat} {g : Nat → Int64} {X : va_W} (h : y < 10) : (cU K ad S z g X)[5 + y]? = some (oB (ad (5 + y)) 0 [.ref (ad (15 + y))]) := cW_S h
theorem cU_set {K : KT} {ad : Nat → Nat} {S : CS} {z : Nat} {g g2 : Nat → Int64} {X : va_W} (h : z < 10) : (cU K ad S z g X).set (15 + z) (aJ K (ad (15 + z)) 13 g2) = cU K ad S z g2 X := by
  unfold cU; rw [cW_set h]; show cW K ad (sF S (uF (uF (fC S) z g) z g2)) X = _; rw [uF_uF]
theorem vU_i {g : Nat → Int64} {i : Nat} {v : Int64} (h : i < 2 ^ 31) : vp_updL g (nI i).toNatClampNeg v = vp_updL g i v := by rw [nI_clamp h]
def cntG (g : Nat → Int64) : Nat → Int32
  | 0 => 0
  | i + 1 => if g i = 0 then cntG g i else cntG g i + Int32.ofInt 1
def sltG (g : Nat → Int64) : Nat → Int32 → Option Nat
  | 0, _ => none
  | k + 1, a => if g k = 0 then sltG g k a else if a = 0 then some k else sltG g k (a + Int32.ofInt (-1))
def sltR (g : Nat → Int64) (a : Int32) : Int32 := match sltG g 13 a with
  | none => -1
  | some k => nI k
def cpyG (h g : Nat → Int64) (i : Nat) : Nat → Int64 := fun k => if k < i then h k else g k
theorem cpy_0 {h g : Nat → Int64} : g = cpyG h g 0 := by
  funext k; exact (if_neg (Nat.not_lt_zero k)).symm
theorem cpy_s {h g : Nat → Int64} {i : Nat} : vp_updL (cpyG h g i) i (h i) = cpyG h g (i + 1) := by
  funext k
  unfold vp_updL cpyG
  by_cases h1 : k = i
  · rw [if_pos h1, if_pos (by omega), h1]
  · rw [if_neg h1]
    by_cases h2 : k < i
    · rw [if_pos h2, if_pos (by omega)]
    · rw [if_neg h2, if_neg (by omega)]
def putF (g : Nat → Int64) (e : Int32) (f : Int64) : Bool × (Nat → Int64) := bif isEx e then (if f = -9223372036854775808 then (false, g) else if facO (g (e + 6).toNatClampNeg + f) 20 = -9223372036854775808 then (false, g) else (true, vp_updL g (e + 6).toNatClampNeg (facO (g (e + 6).toNatClampNeg + f) 20))) else (false, g)
def ppF (h : Nat → Int64) (e : Int32) (f : Int64) : Nat → (Nat → Int64) → Bool × (Nat → Int64)
  | 0, g => (true, g)
  | k + 1, g => if h k = 0 then ppF h e f k g else bif (putF g (e + nI k - 6) (facP f (h k))).1 then ppF h e f k (putF g (e + nI k - 6) (facP f (h k))).2 else (false, (putF g (e + nI k - 6) (facP f (h k))).2)
def btF (h : Nat → Int64) (less : Bool) : Nat → (Nat → Int64) → Bool × (Nat → Int64)
  | 0, g => (true, g)
  | k + 1, g => if h k = 0 then btF h less k g else bif (putF g (nI k - 6) (bif less then -(h k) else h k)).1 then btF h less k (putF g (nI k - 6) (bif less then -(h k) else h k)).2 else (false, (putF g (nI k - 6) (bif less then -(h k) else h k)).2)
def bpF (h y : Nat → Int64) : Nat → (Nat → Int64) → Bool × (Nat → Int64)
  | 0, g => (true, g)
  | k + 1, g => if h k = 0 then bpF h y k g else bif (ppF y (nI k - 6) (h k) 13 g).1 then bpF h y k (ppF y (nI k - 6) (h k) 13 g).2 else (false, (ppF y (nI k - 6) (h k) 13 g).2)
theorem isEx_in {e : Int32} (h : isEx e = true) : vp_in (e + 6) 13 := by
  simp only [isEx, Bool.and_eq_true, Bool.not_eq_true', decide_eq_false_iff_not] at h
  have h1 := h.1
  have h2 := h.2
  rw [Int32.lt_iff_toInt_lt] at h1 h2
  have e0 : (-6 : Int32).toInt = -6 := rfl
  have e6 : (6 : Int32).toInt = 6 := rfl
  rw [vp_in_iff, Int32.toInt_add, e6]
  rw [Int.bmod_def]
  omega
set_option maxHeartbeats 600000 in
set_option maxRecDepth 100000 in
theorem kX0_countTerms (K : KT) (ad : Nat → Nat) (S : CS) (X : va_W) (z : Nat) (g : Nat → Int64)  (hz : z < 10) : ∀ lau : Launch, Con lau yX0_countTerms cX0_countTerms 3 (some .int) 0 0 K (cU K ad S z g X) (fun _ : Unit => cU K ad S z g X) [.ref (ad (5 + z))] (some (.int (cntG g 13))) := by
  refine conI (by decide) (Nat.le_of_ble_eq_true rfl) (fun E C hR => ?_)
  show G E K 0 0 (cU K ad S z g X) [(0, .ref (ad (5 + z)))] 0 []
  refine g_iconst (v := 0) C dX0_countTerms_0 (by decide) ?_
  refine g_istore_n (i := 1) (lv2 := [(0, .ref (ad (5 + z))), (1, .int 0)]) C dX0_countTerms_1 rfl (by decide) rfl ?_
  refine g_iconst (v := 0) C dX0_countTerms_2 (by decide) ?_
  refine g_istore_n (i := 2) (lv2 := [(0, .ref (ad (5 + z))), (1, .int 0), (2, .int 0)]) C dX0_countTerms_3 rfl (by decide) rfl ?_
  have lo : ∀ (fuel : Nat) (i : Nat) (a : Int32), i ≤ 13 → 13 < i + fuel → a = cntG g i → G E K 0 0 (cU K ad S z g X) [(0, .ref (ad (5 + z))), (1, .int a), (2, .int (nI i))] 4 [] := by
    intro fuel
    induction fuel with
    | zero =>
      intro i a hlo0 hlo1 hlo2
      omega
    | succ fuel ihlo =>
      intro i a hlo0 hlo1 hlo2
      refine g_iload_n (i := 2) C dX0_countTerms_4 rfl rfl ?_
      refine g_bipush (v := 13) C dX0_countTerms_5 (by decide) ?_
      refine g_icmp_ge (tgt := 30) C dX0_countTerms_7 (by decide) (fun c7_1 => ?_) (fun c7_1 => ?_)
      · skip
        have ei : i = 13 := by have := nle (a := 13) c7_1 (by decide) (by omega); omega
        refine g_iload_n (i := 1) C dX0_countTerms_30 rfl rfl ?_
        exact hR _ _ _ _ () dX0_countTerms_31 (by rw [hlo2, ei]) (rfl)
      · skip
        have ei : i < 13 := nlt (a := 13) c7_1 (by decide) (by omega)
        refine g_aload_n (i := 0) C dX0_countTerms_10 rfl rfl ?_
        refine g_get C dX0_countTerms_11 fl_X0_9 (5 + z) (cU_S hz) rfl ?_
        refine g_iload_n (i := 2) C dX0_countTerms_14 rfl rfl ?_
        refine g_lald C dX0_countTerms_15 (15 + z) (cU_A hz) (vp_in_nI (by omega) (by decide)) ?_
        refine g_eql (congrArg g (nI_clamp (by omega))) ?_
        refine g_lconst (v := 0) C dX0_countTerms_16 (by decide) ?_
        refine g_lcmp_eq (tgt := 24) C dX0_countTerms_17 dX0_countTerms_18 (by decide) (fun c17_2 => ?_) (fun c17_2 => ?_)
        · skip
          refine g_iinc (v := nI (i + 1)) (lv2 := [(0, .ref (ad (5 + z))), (1, .int a), (2, .int (nI (i + 1)))]) C dX0_countTerms_24 rfl (nI_inc i) (by decide) rfl ?_
          refine g_goto (tgt := 4) C dX0_countTerms_27 (by decide) ?_
          exact g_lvs [0, 1, 2] rfl (ihlo (i + 1) _ (by omega) (by omega) (by rw [cntG, if_pos c17_2, hlo2]))
        · skip
          refine g_iinc (v := a + Int32.ofInt 1) (lv2 := [(0, .ref (ad (5 + z))), (1, .int (a + Int32.ofInt 1)), (2, .int (nI i))]) C dX0_countTerms_21 rfl rfl (by decide) rfl ?_
          refine g_iinc (v := nI (i + 1)) (lv2 := [(0, .ref (ad (5 + z))), (1, .int (a + Int32.ofInt 1)), (2, .int (nI (i + 1)))]) C dX0_countTerms_24 rfl (nI_inc i) (by decide) rfl ?_
          refine g_goto (tgt := 4) C dX0_countTerms_27 (by decide) ?_
          exact g_lvs [0, 1, 2] rfl (ihlo (i + 1) _ (by omega) (by omega) (by rw [cntG, if_neg c17_2, hlo2]))
  exact g_lvs [0, 1, 2] rfl (lo 14 0 0 (by omega) (by omega) rfl)

set_option maxHeartbeats 600000 in
set_option maxRecDepth 100000 in
theorem kX0_clear (K : KT) (ad : Nat → Nat) (S : CS) (X : va_W) (z : Nat) (g : Nat → Int64)  (hz : z < 10) : ∀ lau : Launch, Con lau yX0_clear cX0_clear 2 none 0 0 K (cU K ad S z g X) (fun _ : Unit => cU K ad S z (cpyG (fun _ => 0) g 13) X) [.ref (ad (5 + z))] none := by
  refine conV (by decide) (Nat.le_of_ble_eq_true rfl) (fun E C hR => ?_)
  show G E K 0 0 (cU K ad S z g X) [(0, .ref (ad (5 + z)))] 0 []
  refine g_iconst (v := 0) C dX0_clear_0 (by decide) ?_
  refine g_istore_n (i := 1) (lv2 := [(0, .ref (ad (5 + z))), (1, .int 0)]) C dX0_clear_1 rfl (by decide) rfl ?_
  have lo : ∀ (fuel : Nat) (i : Nat) (q : Nat → Int64), i ≤ 13 → 13 < i + fuel → q = cpyG (fun _ => 0) g i → G E K 0 0 (cU K ad S z q X) [(0, .ref (ad (5 + z))), (1, .int (nI i))] 2 [] := by
    intro fuel
    induction fuel with
    | zero =>
      intro i q hlo0 hlo1 hlo2
      omega
    | succ fuel ihlo =>
      intro i q hlo0 hlo1 hlo2
      refine g_iload_n (i := 1) C dX0_clear_2 rfl rfl ?_
      refine g_bipush (v := 13) C dX0_clear_3 (by decide) ?_
      refine g_icmp_ge (tgt := 21) C dX0_clear_5 (by decide) (fun c5_1 => ?_) (fun c5_1 => ?_)
      · skip
        have ei : i = 13 := by have := nle (a := 13) c5_1 (by decide) (by omega); omega
        exact hR _ _ _ () dX0_clear_21 (by rw [hlo2, ei])
      · skip
        have ei : i < 13 := nlt (a := 13) c5_1 (by decide) (by omega)
        refine g_aload_n (i := 0) C dX0_clear_8 rfl rfl ?_
        refine g_get C dX0_clear_9 fl_X0_9 (5 + z) (cU_S hz) rfl ?_
        refine g_iload_n (i := 1) C dX0_clear_12 rfl rfl ?_
        refine g_lconst (v := 0) C dX0_clear_13 (by decide) ?_
        refine g_last (Wd2 := cU K ad S z (vp_updL q (nI i).toNatClampNeg 0) X) C dX0_clear_14 (15 + z) (cU_A hz) (vp_in_nI (by omega) (by decide)) (cU_set hz) ?_
        refine g_iinc (v := nI (i + 1)) (lv2 := [(0, .ref (ad (5 + z))), (1, .int (nI (i + 1)))]) C dX0_clear_15 rfl (nI_inc i) (by decide) rfl ?_
        refine g_goto (tgt := 2) C dX0_clear_18 (by decide) ?_
        exact g_lvs [0, 1] rfl (ihlo (i + 1) _ (by omega) (by omega) (by rw [nI_clamp (by omega), hlo2]; exact cpy_s (h := fun _ => 0)))
  exact g_lvs [0, 1] rfl (lo 14 0 g (by omega) (by omega) cpy_0)

set_option maxHeartbeats 600000 in
set_option maxRecDepth 100000 in
theorem kX0_become (K : KT) (ad : Nat → Nat) (S : CS) (X : va_W) (z : Nat) (g : Nat → Int64) (y : Nat) (hz : z < 10) (hy : y < 10) (ny : y ≠ z) : ∀ lau : Launch, Con lau yX0_become cX0_become 3 none 0 0 K (cU K ad S z g X) (fun _ : Unit => cU K ad S z (cpyG (fC S y) g 13) X) [.ref (ad (5 + z)), .ref (ad (5 + y))] none := by
  refine conV (by decide) (Nat.le_of_ble_eq_true rfl) (fun E C hR => ?_)
  show G E K 0 0 (cU K ad S z g X) [(0, .ref (ad (5 + z))), (1, .ref (ad (5 + y)))] 0 []
  refine g_iconst (v := 0) C dX0_become_0 (by decide) ?_
  refine g_istore_n (i := 2) (lv2 := [(0, .ref (ad (5 + z))), (1, .ref (ad (5 + y))), (2, .int 0)]) C dX0_become_1 rfl (by decide) rfl ?_
  have lo : ∀ (fuel : Nat) (i : Nat) (q : Nat → Int64), i ≤ 13 → 13 < i + fuel → q = cpyG (fC S y) g i → G E K 0 0 (cU K ad S z q X) [(0, .ref (ad (5 + z))), (1, .ref (ad (5 + y))), (2, .int (nI i))] 2 [] := by
    intro fuel
    induction fuel with
    | zero =>
      intro i q hlo0 hlo1 hlo2
      omega
    | succ fuel ihlo =>
      intro i q hlo0 hlo1 hlo2
      refine g_iload_n (i := 2) C dX0_become_2 rfl rfl ?_
      refine g_bipush (v := 13) C dX0_become_3 (by decide) ?_
      refine g_icmp_ge (tgt := 26) C dX0_become_5 (by decide) (fun c5_1 => ?_) (fun c5_1 => ?_)
      · skip
        have ei : i = 13 := by have := nle (a := 13) c5_1 (by decide) (by omega); omega
        exact hR _ _ _ () dX0_become_26 (by rw [hlo2, ei])
      · skip
        have ei : i < 13 := nlt (a := 13) c5_1 (by decide) (by omega)
        refine g_aload_n (i := 0) C dX0_become_8 rfl rfl ?_
        refine g_get C dX0_become_9 fl_X0_9 (5 + z) (cU_S hz) rfl ?_
        refine g_iload_n (i := 2) C dX0_become_12 rfl rfl ?_
        refine g_aload_n (i := 1) C dX0_become_13 rfl rfl ?_
        refine g_get C dX0_become_14 fl_X0_9 (5 + y) (cU_S hy) rfl ?_
        refine g_iload_n (i := 2) C dX0_become_17 rfl rfl ?_
        refine g_lald C dX0_become_18 (15 + y) (cU_An hy ny) (vp_in_nI (by omega) (by decide)) ?_
        refine g_eql (congrArg (fC S y) (nI_clamp (by omega))) ?_
        refine g_last (Wd2 := cU K ad S z (vp_updL q (nI i).toNatClampNeg ((fC S y) i)) X) C dX0_become_19 (15 + z) (cU_A hz) (vp_in_nI (by omega) (by decide)) (cU_set hz) ?_
        refine g_iinc (v := nI (i + 1)) (lv2 := [(0, .ref (ad (5 + z))), (1, .ref (ad (5 + y))), (2, .int (nI (i + 1)))]) C dX0_become_20 rfl (nI_inc i) (by decide) rfl ?_
        refine g_goto (tgt := 2) C dX0_become_23 (by decide) ?_
        exact g_lvs [0, 1, 2] rfl (ihlo (i + 1) _ (by omega) (by omega) (by rw [nI_clamp (by omega), hlo2]; exact cpy_s))
  exact g_lvs [0, 1, 2] rfl (lo 14 0 g (by omega) (by omega) cpy_0)

set_option maxHeartbeats 600000 in
set_option maxRecDepth 100000 in
theorem kX0_slotOfTerm (K : KT) (ad : Nat → Nat) (S : CS) (X : va_W) (z : Nat) (g : Nat → Int64) (a0 : Int32) (hz : z < 10) : ∀ lau : Launch, Con lau yX0_slotOfTerm cX0_slotOfTerm 4 (some .int) 0 0 K (cU K ad S z g X) (fun _ : Unit => cU K ad S z g X) [.ref (ad (5 + z)), .int a0] (some (.int (sltR g a0))) := by
  refine conI (by decide) (Nat.le_of_ble_eq_true rfl) (fun E C hR => ?_)
  show G E K 0 0 (cU K ad S z g X) [(0, .ref (ad (5 + z))), (1, .int a0)] 0 []
  refine g_iload_n (i := 1) C dX0_slotOfTerm_0 rfl rfl ?_
  refine g_istore_n (i := 2) (lv2 := [(0, .ref (ad (5 + z))), (1, .int a0), (2, .int a0)]) C dX0_slotOfTerm_1 rfl (by decide) rfl ?_
  refine g_bipush (v := 12) C dX0_slotOfTerm_2 (by decide) ?_
  refine g_istore_n (i := 3) (lv2 := [(0, .ref (ad (5 + z))), (1, .int a0), (2, .int a0), (3, .int 12)]) C dX0_slotOfTerm_4 rfl (by decide) rfl ?_
  have lo : ∀ (fuel : Nat) (j : Nat) (v : Int32) (a : Int32), j ≤ 13 → j < fuel → v = nI j - 1 → sltG g j a = sltG g 13 a0 → G E K 0 0 (cU K ad S z g X) [(0, .ref (ad (5 + z))), (1, .int a0), (2, .int a), (3, .int v)] 5 [] := by
    intro fuel
    induction fuel with
    | zero =>
      intro j v a hlo0 hlo1 hlo2 hlo3
      omega
    | succ fuel ihlo =>
      intro j v a hlo0 hlo1 hlo2 hlo3
      refine g_iload_n (i := 3) C dX0_slotOfTerm_5 rfl rfl ?_
      refine g_if_lt (tgt := 35) C dX0_slotOfTerm_6 (by decide) (fun c6_1 => ?_) (fun c6_1 => ?_)
      · skip
        have ej : j = 0 := decn (by rw [← hlo2]; exact c6_1) (by omega)
        subst ej
        refine g_iconst (v := (-1)) C dX0_slotOfTerm_35 (by decide) ?_
        exact hR _ _ _ _ () dX0_slotOfTerm_36 (by rw [sltR, ← hlo3]; rfl) (rfl)
      · skip
        obtain ⟨j2, rfl⟩ := dec0 (j := j) (by rw [← hlo2]; exact c6_1)
        rw [nI_pred] at hlo2
        subst hlo2
        refine g_aload_n (i := 0) C dX0_slotOfTerm_9 rfl rfl ?_
        refine g_get C dX0_slotOfTerm_10 fl_X0_9 (5 + z) (cU_S hz) rfl ?_
        refine g_iload_n (i := 3) C dX0_slotOfTerm_13 rfl rfl ?_
        refine g_lald C dX0_slotOfTerm_14 (15 + z) (cU_A hz) (vp_in_nI (by omega) (by decide)) ?_
        refine g_eql (congrArg g (nI_clamp (by omega))) ?_
        refine g_lconst (v := 0) C dX0_slotOfTerm_15 (by decide) ?_
        refine g_lcmp_eq (tgt := 29) C dX0_slotOfTerm_16 dX0_slotOfTerm_17 (by decide) (fun c16_2 => ?_) (fun c16_2 => ?_)
        · skip
          refine g_iinc (v := (nI j2) + Int32.ofInt (-1)) (lv2 := [(0, .ref (ad (5 + z))), (1, .int a0), (2, .int a), (3, .int ((nI j2) + Int32.ofInt (-1)))]) C dX0_slotOfTerm_29 rfl rfl (by decide) rfl ?_
          refine g_goto (tgt := 5) C dX0_slotOfTerm_32 (by decide) ?_
          exact g_lvs [0, 1, 2, 3] rfl (ihlo j2 _ _ (by omega) (by omega) (dec1 j2) (by rw [← hlo3, sltG, if_pos c16_2]))
        · skip
          refine g_iload_n (i := 2) C dX0_slotOfTerm_20 rfl rfl ?_
          refine g_if_ne (tgt := 26) C dX0_slotOfTerm_21 (by decide) (fun c21_3 => ?_) (fun c21_3 => ?_)
          · skip
            refine g_iinc (v := a + Int32.ofInt (-1)) (lv2 := [(0, .ref (ad (5 + z))), (1, .int a0), (2, .int (a + Int32.ofInt (-1))), (3, .int (nI j2))]) C dX0_slotOfTerm_26 rfl rfl (by decide) rfl ?_
            refine g_iinc (v := (nI j2) + Int32.ofInt (-1)) (lv2 := [(0, .ref (ad (5 + z))), (1, .int a0), (2, .int (a + Int32.ofInt (-1))), (3, .int ((nI j2) + Int32.ofInt (-1)))]) C dX0_slotOfTerm_29 rfl rfl (by decide) rfl ?_
            refine g_goto (tgt := 5) C dX0_slotOfTerm_32 (by decide) ?_
            exact g_lvs [0, 1, 2, 3] rfl (ihlo j2 _ _ (by omega) (by omega) (dec1 j2) (by rw [← hlo3, sltG, if_neg c16_2, if_neg c21_3]))
          · skip
            refine g_iload_n (i := 3) C dX0_slotOfTerm_24 rfl rfl ?_
            exact hR _ _ _ _ () dX0_slotOfTerm_25 (by rw [sltR, ← hlo3, sltG, if_neg c16_2, if_pos c21_3]) (rfl)
  exact g_lvs [0, 1, 2, 3] rfl (lo 14 13 12 a0 (by omega) (by omega) rfl rfl)

set_option maxHeartbeats 600000 in
set_option maxRecDepth 100000 in
theorem kX0_put (K : KT) (ad : Nat → Nat) (S : CS) (X : va_W) (z : Nat) (g : Nat → Int64) (e : Int32) (f : Int64) (hz : z < 10) : ∀ lau : Launch, Con lau yX0_put cX0_put 7 (some .boolean) 4 89 K (cU K ad S z g X) (fun _ : Unit => cU K ad S z ((putF g e f).2) X) [.ref (ad (5 + z)), .int e, .long f] (some (.int (bz (putF g e f).1))) := by
  refine conZ (by decide) (Nat.le_of_ble_eq_true rfl) (fun E C hR => ?_)
  show G E K 0 0 (cU K ad S z g X) [(0, .ref (ad (5 + z))), (1, .int e), (2, .long f)] 0 []
  refine g_iload_n (i := 1) C dX0_put_0 rfl rfl ?_
  refine g_callSN (av := [.int e]) C dX0_put_1 ln_X0_15 mf_X1_isExponent (kX1_isExponent K (cU K ad S z g X) e) rfl rfl (Nat.le_of_ble_eq_true rfl) ⟨Nat.le_of_ble_eq_true rfl, Nat.le_of_ble_eq_true rfl⟩ ⟨Nat.zero_le _, Nat.zero_le _⟩ (fun _ => ?_)
  refine g_bz_eq (tgt := 15) C dX0_put_4 (by decide) (fun c4_1 => ?_) (fun c4_1 => ?_)
  · skip
    refine g_iconst (v := 0) C dX0_put_15 (by decide) ?_
    exact hR _ _ _ _ () dX0_put_16 (by rw [putF, c4_1, cond_false] <;> rfl) (by show _ = cU K ad S z (putF g e f).2 X; rw [putF, c4_1, cond_false] <;> rfl)
  · skip
    refine g_lload_n (i := 2) C dX0_put_7 rfl rfl ?_
    refine g_ldc2 (v := (-9223372036854775808)) C dX0_put_8 kc_X0_19 ?_
    refine g_lcmp_ne (tgt := 17) C dX0_put_11 dX0_put_12 (by decide) (fun c11_2 => ?_) (fun c11_2 => ?_)
    · skip
      refine g_iload_n (i := 1) C dX0_put_17 rfl rfl ?_
      refine g_bipush (v := 6) C dX0_put_18 (by decide) ?_
      refine g_iadd C dX0_put_20 ?_
      refine g_istore (lv2 := [(0, .ref (ad (5 + z))), (1, .int e), (2, .long f), (4, .int (e + 6))]) C dX0_put_21 (by decide) rfl ?_
      refine g_aload_n (i := 0) C dX0_put_23 rfl rfl ?_
      refine g_get C dX0_put_24 fl_X0_9 (5 + z) (cU_S hz) rfl ?_
      refine g_iload C dX0_put_27 rfl ?_
      refine g_lald C dX0_put_29 (15 + z) (cU_A hz) (isEx_in c4_1) ?_
      refine g_lload_n (i := 2) C dX0_put_30 rfl rfl ?_
      refine g_ladd C dX0_put_31 ?_
      refine g_bipush (v := 20) C dX0_put_32 (by decide) ?_
      refine g_callSN (av := [.long ((g (e + 6).toNatClampNeg) + f), .int 20]) C dX0_put_34 ln_X0_21 mf_X1_factorOf (kX1_factorOf K (cU K ad S z g X) ((g (e + 6).toNatClampNeg) + f) 20) rfl rfl (Nat.le_of_ble_eq_true rfl) ⟨Nat.le_of_ble_eq_true rfl, Nat.le_of_ble_eq_true rfl⟩ ⟨Nat.zero_le _, Nat.zero_le _⟩ (fun _ => ?_)
      refine g_lstore (lv2 := [(0, .ref (ad (5 + z))), (1, .int e), (2, .long f), (4, .int (e + 6)), (5, .long (facO ((g (e + 6).toNatClampNeg) + f) 20))]) C dX0_put_37 (by decide) rfl ?_
      refine g_lload C dX0_put_39 rfl ?_
      refine g_ldc2 (v := (-9223372036854775808)) C dX0_put_41 kc_X0_19 ?_
      refine g_lcmp_ne (tgt := 50) C dX0_put_44 dX0_put_45 (by decide) (fun c44_3 => ?_) (fun c44_3 => ?_)
      · skip
        refine g_aload_n (i := 0) C dX0_put_50 rfl rfl ?_
        refine g_get C dX0_put_51 fl_X0_9 (5 + z) (cU_S hz) rfl ?_
        refine g_iload C dX0_put_54 rfl ?_
        refine g_lload C dX0_put_56 rfl ?_
        refine g_last (Wd2 := cU K ad S z (vp_updL g (e + 6).toNatClampNeg (facO ((g (e + 6).toNatClampNeg) + f) 20)) X) C dX0_put_58 (15 + z) (cU_A hz) (isEx_in c4_1) (cU_set hz) ?_
        refine g_iconst (v := 1) C dX0_put_59 (by decide) ?_
        exact hR _ _ _ _ () dX0_put_60 (by rw [putF, c4_1, cond_true, if_neg c11_2, if_neg c44_3] <;> rfl) (by show _ = cU K ad S z (putF g e f).2 X; rw [putF, c4_1, cond_true, if_neg c11_2, if_neg c44_3] <;> rfl)
      · skip
        refine g_iconst (v := 0) C dX0_put_48 (by decide) ?_
        exact hR _ _ _ _ () dX0_put_49 (by rw [putF, c4_1, cond_true, if_neg c11_2, if_pos c44_3] <;> rfl) (by show _ = cU K ad S z (putF g e f).2 X; rw [putF, c4_1, cond_true, if_neg c11_2, if_pos c44_3] <;> rfl)
    · skip
      refine g_iconst (v := 0) C dX0_put_15 (by decide) ?_
      exact hR _ _ _ _ () dX0_put_16 (by rw [putF, c4_1, cond_true, if_pos c11_2] <;> rfl) (by show _ = cU K ad S z (putF g e f).2 X; rw [putF, c4_1, cond_true, if_pos c11_2] <;> rfl)

set_option maxHeartbeats 600000 in
set_option maxRecDepth 100000 in
theorem kX0_putProducts (K : KT) (ad : Nat → Nat) (S : CS) (X : va_W) (z : Nat) (g : Nat → Int64) (e : Int32) (f : Int64) (y : Nat) (hz : z < 10) (hy : y < 10) (ny : y ≠ z) : ∀ lau : Launch, Con lau yX0_putProducts cX0_putProducts 8 (some .boolean) 5 115 K (cU K ad S z g X) (fun _ : Unit => cU K ad S z ((ppF (fC S y) e f 13 g).2) X) [.ref (ad (5 + z)), .int e, .long f, .ref (ad (5 + y))] (some (.int (bz (ppF (fC S y) e f 13 g).1))) := by
  refine conZ (by decide) (Nat.le_of_ble_eq_true rfl) (fun E C hR => ?_)
  show G E K 0 0 (cU K ad S z g X) [(0, .ref (ad (5 + z))), (1, .int e), (2, .long f), (4, .ref (ad (5 + y)))] 0 []
  refine g_bipush (v := 12) C dX0_putProducts_0 (by decide) ?_
  refine g_istore (lv2 := [(0, .ref (ad (5 + z))), (1, .int e), (2, .long f), (4, .ref (ad (5 + y))), (5, .int 12)]) C dX0_putProducts_2 (by decide) rfl ?_
  have lo : ∀ (fuel : Nat) (j : Nat) (v : Int32) (q : Nat → Int64), j ≤ 13 → j < fuel → v = nI j - 1 → ppF (fC S y) e f j q = ppF (fC S y) e f 13 g → G E K 0 0 (cU K ad S z q X) [(0, .ref (ad (5 + z))), (1, .int e), (2, .long f), (4, .ref (ad (5 + y))), (5, .int v)] 4 [] := by
    intro fuel
    induction fuel with
    | zero =>
      intro j v q hlo0 hlo1 hlo2 hlo3
      omega
    | succ fuel ihlo =>
      intro j v q hlo0 hlo1 hlo2 hlo3
      refine g_iload C dX0_putProducts_4 rfl ?_
      refine g_if_lt (tgt := 54) C dX0_putProducts_6 (by decide) (fun c6_1 => ?_) (fun c6_1 => ?_)
      · skip
        have ej : j = 0 := decn (by rw [← hlo2]; exact c6_1) (by omega)
        subst ej
        refine g_iconst (v := 1) C dX0_putProducts_54 (by decide) ?_
        exact hR _ _ _ _ () dX0_putProducts_55 (by rw [← hlo3] <;> rfl) (by show _ = cU K ad S z (ppF (fC S y) e f 13 g).2 X; rw [← hlo3] <;> rfl)
      · skip
        obtain ⟨j2, rfl⟩ := dec0 (j := j) (by rw [← hlo2]; exact c6_1)
        rw [nI_pred] at hlo2
        subst hlo2
        refine g_aload C dX0_putProducts_9 rfl ?_
        refine g_get C dX0_putProducts_11 fl_X0_9 (5 + y) (cU_S hy) rfl ?_
        refine g_iload C dX0_putProducts_14 rfl ?_
        refine g_lald C dX0_putProducts_16 (15 + y) (cU_An hy ny) (vp_in_nI (by omega) (by decide)) ?_
        refine g_eql (congrArg (fC S y) (nI_clamp (by omega))) ?_
        refine g_lstore (lv2 := [(0, .ref (ad (5 + z))), (1, .int e), (2, .long f), (4, .ref (ad (5 + y))), (5, .int (nI j2)), (6, .long ((fC S y) j2))]) C dX0_putProducts_17 (by decide) rfl ?_
        refine g_lload C dX0_putProducts_19 rfl ?_
        refine g_lconst (v := 0) C dX0_putProducts_21 (by decide) ?_
        refine g_lcmp_eq (tgt := 48) C dX0_putProducts_22 dX0_putProducts_23 (by decide) (fun c22_2 => ?_) (fun c22_2 => ?_)
        · skip
          refine g_iinc (v := (nI j2) + Int32.ofInt (-1)) (lv2 := [(0, .ref (ad (5 + z))), (1, .int e), (2, .long f), (4, .ref (ad (5 + y))), (5, .int ((nI j2) + Int32.ofInt (-1))), (6, .long ((fC S y) j2))]) C dX0_putProducts_48 rfl rfl (by decide) rfl ?_
          refine g_goto (tgt := 4) C dX0_putProducts_51 (by decide) ?_
          exact g_lvs [0, 1, 2, 3, 4] rfl (ihlo j2 _ _ (by omega) (by omega) (dec1 j2) (by rw [← hlo3, ppF, if_pos c22_2]))
        · skip
          refine g_aload_n (i := 0) C dX0_putProducts_26 rfl rfl ?_
          refine g_iload_n (i := 1) C dX0_putProducts_27 rfl rfl ?_
          refine g_iload C dX0_putProducts_28 rfl ?_
          refine g_iadd C dX0_putProducts_30 ?_
          refine g_bipush (v := 6) C dX0_putProducts_31 (by decide) ?_
          refine g_isub C dX0_putProducts_33 ?_
          refine g_lload_n (i := 2) C dX0_putProducts_34 rfl rfl ?_
          refine g_lload C dX0_putProducts_35 rfl ?_
          refine g_callSN (av := [.long f, .long ((fC S y) j2)]) C dX0_putProducts_37 ln_X0_25 mf_X1_factorProduct (kX1_factorProduct K (cU K ad S z q X) f ((fC S y) j2)) rfl rfl (Nat.le_of_ble_eq_true rfl) ⟨Nat.le_of_ble_eq_true rfl, Nat.le_of_ble_eq_true rfl⟩ ⟨Nat.zero_le _, Nat.zero_le _⟩ (fun _ => ?_)
          refine g_callV (av := [.int ((e + (nI j2)) - 6), .long (facP f ((fC S y) j2))]) C dX0_putProducts_40 ln_X0_29 mf_X0_put (5 + z) (cU_S hz) rfl (kX0_put K ad S X z q ((e + (nI j2)) - 6) (facP f ((fC S y) j2)) hz  ) rfl rfl (Nat.le_of_ble_eq_true rfl) ⟨Nat.le_of_ble_eq_true rfl, Nat.le_of_ble_eq_true rfl⟩ ⟨Nat.zero_le _, Nat.zero_le _⟩ (fun _ => ?_)
          refine g_bz_ne (tgt := 48) C dX0_putProducts_43 (by decide) (fun c43_3 => ?_) (fun c43_3 => ?_)
          · skip
            refine g_iinc (v := (nI j2) + Int32.ofInt (-1)) (lv2 := [(0, .ref (ad (5 + z))), (1, .int e), (2, .long f), (4, .ref (ad (5 + y))), (5, .int ((nI j2) + Int32.ofInt (-1))), (6, .long ((fC S y) j2))]) C dX0_putProducts_48 rfl rfl (by decide) rfl ?_
            refine g_goto (tgt := 4) C dX0_putProducts_51 (by decide) ?_
            exact g_lvs [0, 1, 2, 3, 4] rfl (ihlo j2 _ _ (by omega) (by omega) (dec1 j2) (by rw [← hlo3, ppF, if_neg c22_2, c43_3, cond_true]))
          · skip
            refine g_iconst (v := 0) C dX0_putProducts_46 (by decide) ?_
            exact hR _ _ _ _ () dX0_putProducts_47 (by rw [← hlo3, ppF, if_neg c22_2, c43_3, cond_false] <;> rfl) (by show _ = cU K ad S z (ppF (fC S y) e f 13 g).2 X; rw [← hlo3, ppF, if_neg c22_2, c43_3, cond_false] <;> rfl)
  exact g_lvs [0, 1, 2, 3, 4] rfl (lo 14 13 12 g (by omega) (by omega) rfl rfl)

set_option maxHeartbeats 600000 in
set_option maxRecDepth 100000 in
theorem kX0_becomeTogether (K : KT) (ad : Nat → Nat) (S : CS) (X : va_W) (z : Nat) (g : Nat → Int64) (x : Nat) (y : Nat) (less : Bool) (hz : z < 10) (hx : x < 10) (nx : x ≠ z) (hy : y < 10) (ny : y ≠ z) : ∀ lau : Launch, Con lau yX0_becomeTogether cX0_becomeTogether 7 (some .boolean) 5 115 K (cU K ad S z g X) (fun _ : Unit => cU K ad S z ((btF (fC S y) less 13 (cpyG (fC S x) g 13)).2) X) [.ref (ad (5 + z)), .ref (ad (5 + x)), .ref (ad (5 + y)), .int (bz less)] (some (.int (bz (btF (fC S y) less 13 (cpyG (fC S x) g 13)).1))) := by
  refine conZ (by decide) (Nat.le_of_ble_eq_true rfl) (fun E C hR => ?_)
  show G E K 0 0 (cU K ad S z g X) [(0, .ref (ad (5 + z))), (1, .ref (ad (5 + x))), (2, .ref (ad (5 + y))), (3, .int (bz less))] 0 []
  refine g_aload_n (i := 0) C dX0_becomeTogether_0 rfl rfl ?_
  refine g_aload_n (i := 1) C dX0_becomeTogether_1 rfl rfl ?_
  refine g_callV (av := [.ref (ad (5 + x))]) C dX0_becomeTogether_2 ln_X0_33 mf_X0_become (5 + z) (cU_S hz) rfl (kX0_become K ad S X z g x hz hx nx ) rfl rfl (Nat.le_of_ble_eq_true rfl) ⟨Nat.le_of_ble_eq_true rfl, Nat.le_of_ble_eq_true rfl⟩ ⟨Nat.zero_le _, Nat.zero_le _⟩ (fun _ => ?_)
  refine g_bipush (v := 12) C dX0_becomeTogether_5 (by decide) ?_
  refine g_istore (lv2 := [(0, .ref (ad (5 + z))), (1, .ref (ad (5 + x))), (2, .ref (ad (5 + y))), (3, .int (bz less)), (4, .int 12)]) C dX0_becomeTogether_7 (by decide) rfl ?_
  have lo : ∀ (fuel : Nat) (j : Nat) (v : Int32) (q : Nat → Int64), j ≤ 13 → j < fuel → v = nI j - 1 → btF (fC S y) less j q = btF (fC S y) less 13 (cpyG (fC S x) g 13) → G E K 0 0 (cU K ad S z q X) [(0, .ref (ad (5 + z))), (1, .ref (ad (5 + x))), (2, .ref (ad (5 + y))), (3, .int (bz less)), (4, .int v)] 9 [] := by
    intro fuel
    induction fuel with
    | zero =>
      intro j v q hlo0 hlo1 hlo2 hlo3
      omega
    | succ fuel ihlo =>
      intro j v q hlo0 hlo1 hlo2 hlo3
      refine g_iload C dX0_becomeTogether_9 rfl ?_
      refine g_if_lt (tgt := 62) C dX0_becomeTogether_11 (by decide) (fun c11_1 => ?_) (fun c11_1 => ?_)
      · skip
        have ej : j = 0 := decn (by rw [← hlo2]; exact c11_1) (by omega)
        subst ej
        refine g_iconst (v := 1) C dX0_becomeTogether_62 (by decide) ?_
        exact hR _ _ _ _ () dX0_becomeTogether_63 (by rw [← hlo3] <;> rfl) (by show _ = cU K ad S z (btF (fC S y) less 13 (cpyG (fC S x) g 13)).2 X; rw [← hlo3] <;> rfl)
      · skip
        obtain ⟨j2, rfl⟩ := dec0 (j := j) (by rw [← hlo2]; exact c11_1)
        rw [nI_pred] at hlo2
        subst hlo2
        refine g_aload_n (i := 2) C dX0_becomeTogether_14 rfl rfl ?_
        refine g_get C dX0_becomeTogether_15 fl_X0_9 (5 + y) (cU_S hy) rfl ?_
        refine g_iload C dX0_becomeTogether_18 rfl ?_
        refine g_lald C dX0_becomeTogether_20 (15 + y) (cU_An hy ny) (vp_in_nI (by omega) (by decide)) ?_
        refine g_eql (congrArg (fC S y) (nI_clamp (by omega))) ?_
        refine g_lstore (lv2 := [(0, .ref (ad (5 + z))), (1, .ref (ad (5 + x))), (2, .ref (ad (5 + y))), (3, .int (bz less)), (4, .int (nI j2)), (5, .long ((fC S y) j2))]) C dX0_becomeTogether_21 (by decide) rfl ?_
        refine g_lload C dX0_becomeTogether_23 rfl ?_
        refine g_lconst (v := 0) C dX0_becomeTogether_25 (by decide) ?_
        refine g_lcmp_eq (tgt := 56) C dX0_becomeTogether_26 dX0_becomeTogether_27 (by decide) (fun c26_2 => ?_) (fun c26_2 => ?_)
        · skip
          refine g_iinc (v := (nI j2) + Int32.ofInt (-1)) (lv2 := [(0, .ref (ad (5 + z))), (1, .ref (ad (5 + x))), (2, .ref (ad (5 + y))), (3, .int (bz less)), (4, .int ((nI j2) + Int32.ofInt (-1))), (5, .long ((fC S y) j2))]) C dX0_becomeTogether_56 rfl rfl (by decide) rfl ?_
          refine g_goto (tgt := 9) C dX0_becomeTogether_59 (by decide) ?_
          exact g_lvs [0, 1, 2, 3, 4] rfl (ihlo j2 _ _ (by omega) (by omega) (dec1 j2) (by rw [← hlo3, btF, if_pos c26_2]))
        · skip
          refine g_aload_n (i := 0) C dX0_becomeTogether_30 rfl rfl ?_
          refine g_iload C dX0_becomeTogether_31 rfl ?_
          refine g_bipush (v := 6) C dX0_becomeTogether_33 (by decide) ?_
          refine g_isub C dX0_becomeTogether_35 ?_
          have j48 : G E K 0 0 (cU K ad S z q X) [(0, .ref (ad (5 + z))), (1, .ref (ad (5 + x))), (2, .ref (ad (5 + y))), (3, .int (bz less)), (4, .int (nI j2)), (5, .long ((fC S y) j2))] 48 [.long (bif less then -(fC S y j2) else fC S y j2), .int ((nI j2) - 6), .ref (ad (5 + z))] := by
            refine g_callV (av := [.int ((nI j2) - 6), .long (bif less then -(fC S y j2) else fC S y j2)]) C dX0_becomeTogether_48 ln_X0_29 mf_X0_put (5 + z) (cU_S hz) rfl (kX0_put K ad S X z q ((nI j2) - 6) (bif less then -(fC S y j2) else fC S y j2) hz  ) rfl rfl (Nat.le_of_ble_eq_true rfl) ⟨Nat.le_of_ble_eq_true rfl, Nat.le_of_ble_eq_true rfl⟩ ⟨Nat.zero_le _, Nat.zero_le _⟩ (fun _ => ?_)
            refine g_bz_ne (tgt := 56) C dX0_becomeTogether_51 (by decide) (fun c51_3 => ?_) (fun c51_3 => ?_)
            · skip
              refine g_iinc (v := (nI j2) + Int32.ofInt (-1)) (lv2 := [(0, .ref (ad (5 + z))), (1, .ref (ad (5 + x))), (2, .ref (ad (5 + y))), (3, .int (bz less)), (4, .int ((nI j2) + Int32.ofInt (-1))), (5, .long ((fC S y) j2))]) C dX0_becomeTogether_56 rfl rfl (by decide) rfl ?_
              refine g_goto (tgt := 9) C dX0_becomeTogether_59 (by decide) ?_
              exact g_lvs [0, 1, 2, 3, 4] rfl (ihlo j2 _ _ (by omega) (by omega) (dec1 j2) (by rw [← hlo3, btF, if_neg c26_2, c51_3, cond_true]))
            · skip
              refine g_iconst (v := 0) C dX0_becomeTogether_54 (by decide) ?_
              exact hR _ _ _ _ () dX0_becomeTogether_55 (by rw [← hlo3, btF, if_neg c26_2, c51_3, cond_false] <;> rfl) (by show _ = cU K ad S z (btF (fC S y) less 13 (cpyG (fC S x) g 13)).2 X; rw [← hlo3, btF, if_neg c26_2, c51_3, cond_false] <;> rfl)
          refine g_iload_n (i := 3) C dX0_becomeTogether_36 rfl rfl ?_
          refine g_bz_eq (tgt := 46) C dX0_becomeTogether_37 (by decide) (fun c37_4 => ?_) (fun c37_4 => ?_)
          · skip
            refine g_lload C dX0_becomeTogether_46 rfl ?_
            exact g_eql (by rw [c37_4] <;> rfl) j48
          · skip
            refine g_lload C dX0_becomeTogether_40 rfl ?_
            refine g_lneg C dX0_becomeTogether_42 ?_
            refine g_goto (tgt := 48) C dX0_becomeTogether_43 (by decide) ?_
            exact g_eql (by rw [c37_4] <;> rfl) j48
  exact g_lvs [0, 1, 2, 3, 4] rfl (lo 14 13 12 (cpyG (fC S x) g 13) (by omega) (by omega) rfl rfl)

set_option maxHeartbeats 600000 in
set_option maxRecDepth 100000 in
theorem kX0_becomeProduct (K : KT) (ad : Nat → Nat) (S : CS) (X : va_W) (z : Nat) (g : Nat → Int64) (x : Nat) (y : Nat) (hz : z < 10) (hx : x < 10) (nx : x ≠ z) (hy : y < 10) (ny : y ≠ z) : ∀ lau : Launch, Con lau yX0_becomeProduct cX0_becomeProduct 6 (some .boolean) 6 142 K (cU K ad S z g X) (fun _ : Unit => cU K ad S z ((bpF (fC S x) (fC S y) 13 (cpyG (fun _ => 0) g 13)).2) X) [.ref (ad (5 + z)), .ref (ad (5 + x)), .ref (ad (5 + y))] (some (.int (bz (bpF (fC S x) (fC S y) 13 (cpyG (fun _ => 0) g 13)).1))) := by
  refine conZ (by decide) (Nat.le_of_ble_eq_true rfl) (fun E C hR => ?_)
  show G E K 0 0 (cU K ad S z g X) [(0, .ref (ad (5 + z))), (1, .ref (ad (5 + x))), (2, .ref (ad (5 + y)))] 0 []
  refine g_aload_n (i := 0) C dX0_becomeProduct_0 rfl rfl ?_
  refine g_callV (av := []) C dX0_becomeProduct_1 ln_X0_37 mf_X0_clear (5 + z) (cU_S hz) rfl (kX0_clear K ad S X z g  hz  ) rfl rfl (Nat.le_of_ble_eq_true rfl) ⟨Nat.le_of_ble_eq_true rfl, Nat.le_of_ble_eq_true rfl⟩ ⟨Nat.zero_le _, Nat.zero_le _⟩ (fun _ => ?_)
  refine g_bipush (v := 12) C dX0_becomeProduct_4 (by decide) ?_
  refine g_istore_n (i := 3) (lv2 := [(0, .ref (ad (5 + z))), (1, .ref (ad (5 + x))), (2, .ref (ad (5 + y))), (3, .int 12)]) C dX0_becomeProduct_6 rfl (by decide) rfl ?_
  have lo : ∀ (fuel : Nat) (j : Nat) (v : Int32) (q : Nat → Int64), j ≤ 13 → j < fuel → v = nI j - 1 → bpF (fC S x) (fC S y) j q = bpF (fC S x) (fC S y) 13 (cpyG (fun _ => 0) g 13) → G E K 0 0 (cU K ad S z q X) [(0, .ref (ad (5 + z))), (1, .ref (ad (5 + x))), (2, .ref (ad (5 + y))), (3, .int v)] 7 [] := by
    intro fuel
    induction fuel with
    | zero =>
      intro j v q hlo0 hlo1 hlo2 hlo3
      omega
    | succ fuel ihlo =>
      intro j v q hlo0 hlo1 hlo2 hlo3
      refine g_iload_n (i := 3) C dX0_becomeProduct_7 rfl rfl ?_
      refine g_if_lt (tgt := 48) C dX0_becomeProduct_8 (by decide) (fun c8_1 => ?_) (fun c8_1 => ?_)
      · skip
        have ej : j = 0 := decn (by rw [← hlo2]; exact c8_1) (by omega)
        subst ej
        refine g_iconst (v := 1) C dX0_becomeProduct_48 (by decide) ?_
        exact hR _ _ _ _ () dX0_becomeProduct_49 (by rw [← hlo3] <;> rfl) (by show _ = cU K ad S z (bpF (fC S x) (fC S y) 13 (cpyG (fun _ => 0) g 13)).2 X; rw [← hlo3] <;> rfl)
      · skip
        obtain ⟨j2, rfl⟩ := dec0 (j := j) (by rw [← hlo2]; exact c8_1)
        rw [nI_pred] at hlo2
        subst hlo2
        refine g_aload_n (i := 1) C dX0_becomeProduct_11 rfl rfl ?_
        refine g_get C dX0_becomeProduct_12 fl_X0_9 (5 + x) (cU_S hx) rfl ?_
        refine g_iload_n (i := 3) C dX0_becomeProduct_15 rfl rfl ?_
        refine g_lald C dX0_becomeProduct_16 (15 + x) (cU_An hx nx) (vp_in_nI (by omega) (by decide)) ?_
        refine g_eql (congrArg (fC S x) (nI_clamp (by omega))) ?_
        refine g_lstore (lv2 := [(0, .ref (ad (5 + z))), (1, .ref (ad (5 + x))), (2, .ref (ad (5 + y))), (3, .int (nI j2)), (4, .long ((fC S x) j2))]) C dX0_becomeProduct_17 (by decide) rfl ?_
        refine g_lload C dX0_becomeProduct_19 rfl ?_
        refine g_lconst (v := 0) C dX0_becomeProduct_21 (by decide) ?_
        refine g_lcmp_eq (tgt := 42) C dX0_becomeProduct_22 dX0_becomeProduct_23 (by decide) (fun c22_2 => ?_) (fun c22_2 => ?_)
        · skip
          refine g_iinc (v := (nI j2) + Int32.ofInt (-1)) (lv2 := [(0, .ref (ad (5 + z))), (1, .ref (ad (5 + x))), (2, .ref (ad (5 + y))), (3, .int ((nI j2) + Int32.ofInt (-1))), (4, .long ((fC S x) j2))]) C dX0_becomeProduct_42 rfl rfl (by decide) rfl ?_
          refine g_goto (tgt := 7) C dX0_becomeProduct_45 (by decide) ?_
          exact g_lvs [0, 1, 2, 3] rfl (ihlo j2 _ _ (by omega) (by omega) (dec1 j2) (by rw [← hlo3, bpF, if_pos c22_2]))
        · skip
          refine g_aload_n (i := 0) C dX0_becomeProduct_26 rfl rfl ?_
          refine g_iload_n (i := 3) C dX0_becomeProduct_27 rfl rfl ?_
          refine g_bipush (v := 6) C dX0_becomeProduct_28 (by decide) ?_
          refine g_isub C dX0_becomeProduct_30 ?_
          refine g_lload C dX0_becomeProduct_31 rfl ?_
          refine g_aload_n (i := 2) C dX0_becomeProduct_33 rfl rfl ?_
          refine g_callV (av := [.int ((nI j2) - 6), .long ((fC S x) j2), .ref (ad (5 + y))]) C dX0_becomeProduct_34 ln_X0_40 mf_X0_putProducts (5 + z) (cU_S hz) rfl (kX0_putProducts K ad S X z q ((nI j2) - 6) ((fC S x) j2) y hz hy ny ) rfl rfl (Nat.le_of_ble_eq_true rfl) ⟨Nat.le_of_ble_eq_true rfl, Nat.le_of_ble_eq_true rfl⟩ ⟨Nat.zero_le _, Nat.zero_le _⟩ (fun _ => ?_)
          refine g_bz_ne (tgt := 42) C dX0_becomeProduct_37 (by decide) (fun c37_3 => ?_) (fun c37_3 => ?_)
          · skip
            refine g_iinc (v := (nI j2) + Int32.ofInt (-1)) (lv2 := [(0, .ref (ad (5 + z))), (1, .ref (ad (5 + x))), (2, .ref (ad (5 + y))), (3, .int ((nI j2) + Int32.ofInt (-1))), (4, .long ((fC S x) j2))]) C dX0_becomeProduct_42 rfl rfl (by decide) rfl ?_
            refine g_goto (tgt := 7) C dX0_becomeProduct_45 (by decide) ?_
            exact g_lvs [0, 1, 2, 3] rfl (ihlo j2 _ _ (by omega) (by omega) (dec1 j2) (by rw [← hlo3, bpF, if_neg c22_2, c37_3, cond_true]))
          · skip
            refine g_iconst (v := 0) C dX0_becomeProduct_40 (by decide) ?_
            exact hR _ _ _ _ () dX0_becomeProduct_41 (by rw [← hlo3, bpF, if_neg c22_2, c37_3, cond_false] <;> rfl) (by show _ = cU K ad S z (bpF (fC S x) (fC S y) 13 (cpyG (fun _ => 0) g 13)).2 X; rw [← hlo3, bpF, if_neg c22_2, c37_3, cond_false] <;> rfl)
  exact g_lvs [0, 1, 2, 3] rfl (lo 14 13 12 (cpyG (fun _ => 0) g 13) (by omega) (by omega) rfl rfl)
end
section
theorem isSm_n8 {x : Int32} (h : isSm x = true) : x.toNatClampNeg ≠ 8 := Nat.ne_of_lt (vp_lt (isSm_in h))
theorem isSm_n9 {x : Int32} (h : isSm x = true) : x.toNatClampNeg ≠ 9 := Nat.ne_of_lt (Nat.lt_trans (vp_lt (isSm_in h)) (by decide))
theorem in6 : vp_in 6 13 := by unfold vp_in; decide
theorem sltG_lt {g : Nat → Int64} : ∀ {j : Nat} {a : Int32} {k : Nat}, sltG g j a = some k → k < j
  | 0, _, _, h => by cases h
  | j + 1, a, k, h => by
    rw [sltG] at h
    by_cases h1 : g j = 0
    · rw [if_pos h1] at h; exact Nat.lt_succ_of_lt (sltG_lt h)
    · rw [if_neg h1] at h
      by_cases h2 : a = 0
      · rw [if_pos h2] at h; rw [← Option.some.inj h]; exact Nat.lt_succ_self j
      · rw [if_neg h2] at h; exact Nat.lt_succ_of_lt (sltG_lt h)
theorem sltR_in {g : Nat → Int64} {a : Int32} (h : ¬ sltR g a < 0) : vp_in (sltR g a) 13 := by
  unfold sltR at h ⊢
  cases e : sltG g 13 a with
  | none => rw [e] at h; exact absurd (by decide) h
  | some k => exact vp_in_nI (sltG_lt e) (by decide)
theorem sltR_in2 {g : Nat → Int64} {a : Int32} (h : 0 ≤ sltR g a) : vp_in (sltR g a) 13 := sltR_in (Int32.not_lt.mpr h)
abbrev gC (S : CS) (z : Int32) : Nat → Int64 := fC S z.toNatClampNeg
def cT1 (S : CS) (z e a k : Int32) : CS := sF S (uF (fC S) z.toNatClampNeg (vp_updL (gC S z) (e + 6).toNatClampNeg (facO a.toInt64 k)))
def cTerm (S : CS) (z e a k : Int32) : Int32 × CS := bif isSm z then bif isEx e then bif isFr a k then (cntG (gC (cT1 S z e a k) z) 13, cT1 S z e a k) else (-1, S) else (-1, S) else (-1, S)
def cTold (S : CS) (z i w : Int32) : Int32 := bif isSm z then (if i < 0 then -1000000001 else if w < 0 then -1000000001 else if w ≤ 2 then (if 0 ≤ sltR (gC S z) i then (if w = 0 then sltR (gC S z) i - 6 else if w = 1 then lAbo (gC S z (sltR (gC S z) i).toNatClampNeg) 20 else lBel (gC S z (sltR (gC S z) i).toNatClampNeg) 20) else -1000000004) else -1000000001) else -1000000001
def cS8 (S : CS) (g : Nat → Int64) : CS := sF S (uF (fC S) 8 g)
def cE1 (S : CS) (z : Nat) : CS := sF S (uF (fC S) z (cpyG (fC S 8) (fC S z) 13))
def cE2 (S : CS) (z : Nat) : CS := sF S (uF (fC S) z (cpyG (fC S 9) (fC S z) 13))
def sumP (S : CS) (x y : Int32) : Bool × (Nat → Int64) := bpF (gC S x) (gC S y) 13 (cpyG (fun _ => 0) (fC S 8) 13)
def sumT (S : CS) (x y : Int32) (less : Bool) : Bool × (Nat → Int64) := btF (gC S y) less 13 (cpyG (gC S x) (fC S 8) 13)
def sumE (S : CS) (z : Int32) (r : Bool × (Nat → Int64)) : Int32 × CS := bif r.1 then (cntG (cpyG (fC (cS8 S r.2) 8) (fC (cS8 S r.2) z.toNatClampNeg) 13) 13, cE1 (cS8 S r.2) z.toNatClampNeg) else (-5, cS8 S r.2)
def cSum (S : CS) (z how x y : Int32) : Int32 × CS := bif isSm z then (if how < 0 then (-1, S) else if 2 < how then (-1, S) else bif isSm x then bif isSm y then (if how = 2 then sumE S z (sumP S x y) else sumE S z (sumT S x y (decide (how = 1)))) else (-1, S) else (-1, S)) else (-1, S)
def cOrd (S : CS) (x y : Int32) : Int32 × CS := bif isSm x then bif isSm y then (bif (sumT S x y true).1 then (if 0 ≤ sltR (sumT S x y true).2 0 then (sgnO ((sumT S x y true).2 (sltR (sumT S x y true).2 0).toNatClampNeg), cS8 S (sumT S x y true).2) else (0, cS8 S (sumT S x y true).2)) else (-5, cS8 S (sumT S x y true).2)) else (-9, S) else (-9, S)
def cTk (S : CS) (z s : Int32) : Nat → Int64 := vp_updL (cpyG (fun _ => 0) (gC S z) 13) (6 : Int32).toNatClampNeg (facO (vlC S s) 23)
def cTake (S : CS) (z s : Int32) : Int32 × CS := bif isSm z then bif isReg s then (if facO (vlC S s) 23 = -9223372036854775808 then (-5, S) else (cntG (cTk S z s) 13, sF S (uF (fC S) z.toNatClampNeg (cTk S z s)))) else (-1, S) else (-1, S)
def cNear (S : CS) (s z : Int32) : Int32 × CS := bif isReg s then bif isSm z then (if sltR (gC S z) 0 ≤ 6 then cHV S s (shlL (gC S z (6 : Int32).toNatClampNeg) 3) else (-2, S)) else (-1, S) else (-1, S)
def c2 (K : KT) (ad : Nat → Nat) (S : CS) (r q : Nat → Int64) (X : va_W) : va_W := cW K ad (sF S (uF (uF (fC S) 8 r) 9 q)) X
theorem c2_9 {K : KT} {ad : Nat → Nat} {S : CS} {r q : Nat → Int64} {X : va_W} : c2 K ad S r q X = cU K ad (sF S (uF (fC S) 8 r)) 9 q X := rfl
theorem c2_8 {K : KT} {ad : Nat → Nat} {S : CS} {r q : Nat → Int64} {X : va_W} : c2 K ad S r q X = cU K ad (sF S (uF (fC S) 9 q)) 8 r X := by
  unfold c2 cU
  rw [uF_comm (by decide)]
theorem c2_S {K : KT} {ad : Nat → Nat} {S : CS} {y : Nat} {r q : Nat → Int64} {X : va_W} (h : y < 10) : (c2 K ad S r q X)[5 + y]? = some (oB (ad (5 + y)) 0 [.ref (ad (15 + y))]) := cW_S h
theorem c2_A9 {K : KT} {ad : Nat → Nat} {S : CS} {r q : Nat → Int64} {X : va_W} : (c2 K ad S r q X)[24]? = some (aJ K (ad 24) 13 q) := by rw [c2_9]; exact cU_A (z := 9) (by decide)
theorem c2_An {K : KT} {ad : Nat → Nat} {S : CS} {y : Nat} {r q : Nat → Int64} {X : va_W} (h : y < 10) (h8 : y ≠ 8) (h9 : y ≠ 9) : (c2 K ad S r q X)[15 + y]? = some (aJ K (ad (15 + y)) 13 (fC S y)) := by
  rw [c2_9, cU_An h h9]; show some (aJ K (ad (15 + y)) 13 (uF (fC S) 8 r y)) = _; rw [uF_n h8]
theorem kD_put (K : KT) (ad : Nat → Nat) (S : CS) (X : va_W) (r q : Nat → Int64) (e : Int32) (f : Int64) : ∀ lau : Launch, Con lau yX0_put cX0_put 7 (some .boolean) 4 89 K (c2 K ad S r q X) (fun _ : Unit => c2 K ad S (putF r e f).2 q X) [.ref (ad 13), .int e, .long f] (some (.int (bz (putF r e f).1))) := by
  rw [c2_8, c2_8]
  exact kX0_put K ad (sF S (uF (fC S) 9 q)) X 8 r e f (by decide)
theorem kD_pp (K : KT) (ad : Nat → Nat) (S : CS) (X : va_W) (r q : Nat → Int64) (e : Int32) (f : Int64) (y : Nat) (hy : y < 10) (h8 : y ≠ 8) (h9 : y ≠ 9) : ∀ lau : Launch, Con lau yX0_putProducts cX0_putProducts 8 (some .boolean) 5 115 K (c2 K ad S r q X) (fun _ : Unit => c2 K ad S r (ppF (fC S y) e f 13 q).2 X) [.ref (ad 14), .int e, .long f, .ref (ad (5 + y))] (some (.int (bz (ppF (fC S y) e f 13 q).1))) := by
  have h := kX0_putProducts K ad (sF S (uF (fC S) 8 r)) X 9 q e f y (by decide) hy h9
  rw [show fC (sF S (uF (fC S) 8 r)) y = fC S y from uF_n h8] at h
  exact h
theorem kD_slt (K : KT) (ad : Nat → Nat) (S : CS) (X : va_W) (r q : Nat → Int64) (a : Int32) : ∀ lau : Launch, Con lau yX0_slotOfTerm cX0_slotOfTerm 4 (some .int) 0 0 K (c2 K ad S r q X) (fun _ : Unit => c2 K ad S r q X) [.ref (ad 14), .int a] (some (.int (sltR q a))) := kX0_slotOfTerm K ad (sF S (uF (fC S) 8 r)) X 9 q a (by decide)
theorem c2_en {K : KT} {ad : Nat → Nat} {S : CS} {x : Nat} {r : Nat → Int64} {X : va_W} (h8 : x ≠ 8) : cU K ad (sF S (uF (fC S) 8 r)) 9 (cpyG (fC (sF S (uF (fC S) 8 r)) x) (fC (sF S (uF (fC S) 8 r)) 9) 13) X = c2 K ad S r (cpyG (fC S x) (fC S 9) 13) X := by
  rw [c2_9, show fC (sF S (uF (fC S) 8 r)) x = fC S x from uF_n (g := r) h8, show fC (sF S (uF (fC S) 8 r)) 9 = fC S 9 from uF_n (g := r) (show (9 : Nat) ≠ 8 by decide)]
def dOnce (h : Nat → Int64) (ds rs : Int32) (r q : Nat → Int64) : Bool × (Nat → Int64) × (Nat → Int64) := bif (putF r (rs - ds) (facQ (q rs.toNatClampNeg) (h ds.toNatClampNeg))).1 then ((ppF h (rs - ds) (-(facQ (q rs.toNatClampNeg) (h ds.toNatClampNeg))) 13 q).1, (putF r (rs - ds) (facQ (q rs.toNatClampNeg) (h ds.toNatClampNeg))).2, (ppF h (rs - ds) (-(facQ (q rs.toNatClampNeg) (h ds.toNatClampNeg))) 13 q).2) else (false, (putF r (rs - ds) (facQ (q rs.toNatClampNeg) (h ds.toNatClampNeg))).2, q)
def dvL (h : Nat → Int64) (ds : Int32) : Nat → Nat → (Nat → Int64) → (Nat → Int64) → Bool × Nat × (Nat → Int64) × (Nat → Int64)
  | 0, n, r, q => (true, n, r, q)
  | f + 1, n, r, q => if sltR q 0 < 0 then (true, n, r, q) else if -6 ≤ sltR q 0 - ds then (bif (dOnce h ds (sltR q 0) r q).1 then dvL h ds f (n + 1) (dOnce h ds (sltR q 0) r q).2.1 (dOnce h ds (sltR q 0) r q).2.2 else (false, n, (dOnce h ds (sltR q 0) r q).2.1, (dOnce h ds (sltR q 0) r q).2.2)) else (true, n, r, q)
def dvS (S : CS) (x y : Int32) (n : Nat) : Bool × Nat × (Nat → Int64) × (Nat → Int64) := dvL (gC S y) (sltR (gC S y) 0) n 0 (cpyG (fun _ => 0) (fC S 8) 13) (cpyG (gC S x) (fC S 9) 13)
def cS2 (S : CS) (r q : Nat → Int64) : CS := sF S (uF (uF (fC S) 8 r) 9 q)
def dvE (S : CS) (q r : Int32) (u : Bool × Nat × (Nat → Int64) × (Nat → Int64)) : Int32 × CS := bif u.1 then (nI u.2.1, cE2 (cE1 (cS2 S u.2.2.1 u.2.2.2) q.toNatClampNeg) r.toNatClampNeg) else (-5, cS2 S u.2.2.1 u.2.2.2)
def cDiv (S : CS) (q r x y n : Int32) : Int32 × CS := bif isSm q then bif isSm r then (if q = r then (-1, S) else bif isSm x then bif isSm y then (if n < 1 then (-1, S) else if n ≤ 20 then (if sltR (gC S y) 0 < 0 then (-2, S) else bif isP2 (gC S y (sltR (gC S y) 0).toNatClampNeg) then dvE S q r (dvS S x y n.toNatClampNeg) else (-2, S)) else (-1, S)) else (-1, S) else (-1, S)) else (-1, S) else (-1, S)
theorem rnd_k {n : Int32} (h1 : ¬ n < 1) (h2 : n ≤ 20) : ∃ k : Nat, k ≤ 20 ∧ n = nI k := by
  refine nI_of2 (M := 20) rfl ?_ h2
  intro h
  apply h1
  rw [Int32.lt_iff_toInt_lt] at h ⊢
  have e0 : (0 : Int32).toInt = 0 := rfl
  have e1 : (1 : Int32).toInt = 1 := rfl
  omega
theorem dvL_s {h : Nat → Int64} {ds : Int32} {m n : Nat} {r q : Nat → Int64} (e : n < m) : dvL h ds (m - n) n r q = (if sltR q 0 < 0 then (true, n, r, q) else if -6 ≤ sltR q 0 - ds then (bif (dOnce h ds (sltR q 0) r q).1 then dvL h ds (m - (n + 1)) (n + 1) (dOnce h ds (sltR q 0) r q).2.1 (dOnce h ds (sltR q 0) r q).2.2 else (false, n, (dOnce h ds (sltR q 0) r q).2.1, (dOnce h ds (sltR q 0) r q).2.2)) else (true, n, r, q)) := by
  rw [show m - n = (m - (n + 1)) + 1 from by omega]
  rfl
theorem dvL_0 {h : Nat → Int64} {ds : Int32} {m : Nat} {r q : Nat → Int64} : dvL h ds (m - m) m r q = (true, m, r, q) := by
  rw [Nat.sub_self]; rfl
set_option maxHeartbeats 600000 in
set_option maxRecDepth 100000 in
theorem kX1_term (K : KT) (ad : Nat → Nat) (S : CS) (X : va_W) (z : Int32) (e : Int32) (a : Int32) (k : Int32) : ∀ lau : Launch, Con lau yX1_term cX1_term 5 (some .int) 4 89 K (cW K ad S X) (fun _ : Unit => cW K ad ((cTerm S z e a k).2) X) [.ref (ad 0), .int z, .int e, .int a, .int k] (some (.int ((cTerm S z e a k).1))) := by
  refine conI (by decide) (Nat.le_of_ble_eq_true rfl) (fun E C hR => ?_)
  show G E K 0 0 (cW K ad S X) [(0, .ref (ad 0)), (1, .int z), (2, .int e), (3, .int a), (4, .int k)] 0 []
  refine g_iload_n (i := 1) C dX1_term_0 rfl rfl ?_
  refine g_callS (av := [.int z]) C dX1_term_1 ln_X1_116 mf_X1_isSum (kX1_isSum K (cW K ad S X) z) rfl rfl (Nat.le_of_ble_eq_true rfl) ⟨Nat.le_of_ble_eq_true rfl, Nat.le_of_ble_eq_true rfl⟩ ⟨Nat.zero_le _, Nat.zero_le _⟩ (fun _ => ?_)
  refine g_bz_eq (tgt := 23) C dX1_term_4 (by decide) (fun c4_1 => ?_) (fun c4_1 => ?_)
  · skip
    refine g_iconst (v := (-1)) C dX1_term_23 (by decide) ?_
    exact hR _ _ _ _ () dX1_term_24 (by rw [cTerm, c4_1, cond_false] <;> rfl) (by show _ = cW K ad (cTerm S z e a k).2 X; rw [cTerm, c4_1, cond_false] <;> first | rfl | exact cU_in.symm)
  · skip
    refine g_iload_n (i := 2) C dX1_term_7 rfl rfl ?_
    refine g_callS (av := [.int e]) C dX1_term_8 ln_X1_119 mf_X1_isExponent (kX1_isExponent K (cW K ad S X) e) rfl rfl (Nat.le_of_ble_eq_true rfl) ⟨Nat.le_of_ble_eq_true rfl, Nat.le_of_ble_eq_true rfl⟩ ⟨Nat.zero_le _, Nat.zero_le _⟩ (fun _ => ?_)
    refine g_bz_eq (tgt := 23) C dX1_term_11 (by decide) (fun c11_2 => ?_) (fun c11_2 => ?_)
    · skip
      refine g_iconst (v := (-1)) C dX1_term_23 (by decide) ?_
      exact hR _ _ _ _ () dX1_term_24 (by rw [cTerm, c4_1, cond_true, c11_2, cond_false] <;> rfl) (by show _ = cW K ad (cTerm S z e a k).2 X; rw [cTerm, c4_1, cond_true, c11_2, cond_false] <;> first | rfl | exact cU_in.symm)
    · skip
      refine g_iload_n (i := 3) C dX1_term_14 rfl rfl ?_
      refine g_iload C dX1_term_15 rfl ?_
      refine g_callS (av := [.int a, .int k]) C dX1_term_17 ln_X1_51 mf_X1_isFraction (kX1_isFraction K (cW K ad S X) a k) rfl rfl (Nat.le_of_ble_eq_true rfl) ⟨Nat.le_of_ble_eq_true rfl, Nat.le_of_ble_eq_true rfl⟩ ⟨Nat.zero_le _, Nat.zero_le _⟩ (fun _ => ?_)
      refine g_bz_ne (tgt := 25) C dX1_term_20 (by decide) (fun c20_3 => ?_) (fun c20_3 => ?_)
      · skip
        refine g_aload_n (i := 0) C dX1_term_25 rfl rfl ?_
        refine g_get C dX1_term_26 fl_X1_31 0 rfl rfl ?_
        refine g_iload_n (i := 1) C dX1_term_29 rfl rfl ?_
        refine g_aald (b := (ad (5 + z.toNatClampNeg))) C dX1_term_30 4 rfl (isSm_in c4_1) (soF_in c4_1) ?_
        refine g_getN C dX1_term_31 fl_X1_122 (5 + z.toNatClampNeg) (cW_S (isSm_z c4_1)) rfl ?_
        refine g_iload_n (i := 2) C dX1_term_34 rfl rfl ?_
        refine g_bipush (v := 6) C dX1_term_35 (by decide) ?_
        refine g_iadd C dX1_term_37 ?_
        refine g_iload_n (i := 3) C dX1_term_38 rfl rfl ?_
        refine g_i2l (v := Int32.toInt64 a) C dX1_term_39 rfl ?_
        refine g_iload C dX1_term_40 rfl ?_
        refine g_callS (av := [.long (Int32.toInt64 a), .int k]) C dX1_term_42 ln_X1_125 mf_X1_factorOf (kX1_factorOf K (cW K ad S X) (Int32.toInt64 a) k) rfl rfl (Nat.le_of_ble_eq_true rfl) ⟨Nat.le_of_ble_eq_true rfl, Nat.le_of_ble_eq_true rfl⟩ ⟨Nat.zero_le _, Nat.zero_le _⟩ (fun _ => ?_)
        refine g_last (Wd2 := cW K ad (S.1, S.2.1, S.2.2.1, S.2.2.2.1, S.2.2.2.2.1, uF S.2.2.2.2.2 z.toNatClampNeg (vp_updL (S.2.2.2.2.2 z.toNatClampNeg) (e + 6).toNatClampNeg (facO (Int32.toInt64 a) k))) X) C dX1_term_45 (15 + z.toNatClampNeg) (cW_A (isSm_z c4_1)) (isEx_in c11_2) (cW_set (isSm_z c4_1)) ?_
        refine g_aload_n (i := 0) C dX1_term_46 rfl rfl ?_
        refine g_get C dX1_term_47 fl_X1_31 0 rfl rfl ?_
        refine g_iload_n (i := 1) C dX1_term_50 rfl rfl ?_
        refine g_aald (b := (ad (5 + z.toNatClampNeg))) C dX1_term_51 4 rfl (isSm_in c4_1) (soF_in c4_1) ?_
        refine g_eqw (cU_in (z := z.toNatClampNeg)) ?_
        refine g_callVN (av := []) C dX1_term_52 ln_X1_129 mf_X0_countTerms (5 + z.toNatClampNeg) (cU_S (isSm_z c4_1)) rfl (kX0_countTerms K ad (S.1, S.2.1, S.2.2.1, S.2.2.2.1, S.2.2.2.2.1, uF S.2.2.2.2.2 z.toNatClampNeg (vp_updL (S.2.2.2.2.2 z.toNatClampNeg) (e + 6).toNatClampNeg (facO (Int32.toInt64 a) k))) X z.toNatClampNeg (fC (S.1, S.2.1, S.2.2.1, S.2.2.2.1, S.2.2.2.2.1, uF S.2.2.2.2.2 z.toNatClampNeg (vp_updL (S.2.2.2.2.2 z.toNatClampNeg) (e + 6).toNatClampNeg (facO (Int32.toInt64 a) k))) z.toNatClampNeg)  (isSm_z c4_1)  ) rfl rfl (Nat.le_of_ble_eq_true rfl) ⟨Nat.le_of_ble_eq_true rfl, Nat.le_of_ble_eq_true rfl⟩ ⟨Nat.zero_le _, Nat.zero_le _⟩ (fun _ => ?_)
        refine g_eqw (Eq.symm (cU_in (z := z.toNatClampNeg))) ?_
        exact hR _ _ _ _ () dX1_term_55 (by rw [cTerm, c4_1, cond_true, c11_2, cond_true, c20_3, cond_true] <;> rfl) (by show _ = cW K ad (cTerm S z e a k).2 X; rw [cTerm, c4_1, cond_true, c11_2, cond_true, c20_3, cond_true] <;> first | rfl | exact cU_in.symm)
      · skip
        refine g_iconst (v := (-1)) C dX1_term_23 (by decide) ?_
        exact hR _ _ _ _ () dX1_term_24 (by rw [cTerm, c4_1, cond_true, c11_2, cond_true, c20_3, cond_false] <;> rfl) (by show _ = cW K ad (cTerm S z e a k).2 X; rw [cTerm, c4_1, cond_true, c11_2, cond_true, c20_3, cond_false] <;> first | rfl | exact cU_in.symm)

set_option maxHeartbeats 600000 in
set_option maxRecDepth 100000 in
theorem kX1_told (K : KT) (ad : Nat → Nat) (S : CS) (X : va_W) (z : Int32) (i : Int32) (w : Int32) : ∀ lau : Launch, Con lau yX1_told cX1_told 7 (some .int) 4 86 K (cW K ad S X) (fun _ : Unit => cW K ad S X) [.ref (ad 0), .int z, .int i, .int w] (some (.int (cTold S z i w))) := by
  refine conI (by decide) (Nat.le_of_ble_eq_true rfl) (fun E C hR => ?_)
  show G E K 0 0 (cW K ad S X) [(0, .ref (ad 0)), (1, .int z), (2, .int i), (3, .int w)] 0 []
  refine g_iload_n (i := 1) C dX1_told_0 rfl rfl ?_
  refine g_callS (av := [.int z]) C dX1_told_1 ln_X1_116 mf_X1_isSum (kX1_isSum K (cW K ad S X) z) rfl rfl (Nat.le_of_ble_eq_true rfl) ⟨Nat.le_of_ble_eq_true rfl, Nat.le_of_ble_eq_true rfl⟩ ⟨Nat.zero_le _, Nat.zero_le _⟩ (fun _ => ?_)
  refine g_bz_eq (tgt := 20) C dX1_told_4 (by decide) (fun c4_1 => ?_) (fun c4_1 => ?_)
  · skip
    refine g_ldc (v := (-1000000001)) C dX1_told_20 kc_X1_133 ?_
    exact hR _ _ _ _ () dX1_told_22 (by rw [cTold, c4_1, cond_false] <;> rfl) (by first | rfl | exact cU_in.symm)
  · skip
    refine g_iload_n (i := 2) C dX1_told_7 rfl rfl ?_
    refine g_if_lt (tgt := 20) C dX1_told_8 (by decide) (fun c8_2 => ?_) (fun c8_2 => ?_)
    · skip
      refine g_ldc (v := (-1000000001)) C dX1_told_20 kc_X1_133 ?_
      exact hR _ _ _ _ () dX1_told_22 (by rw [cTold, c4_1, cond_true, if_pos c8_2] <;> rfl) (by first | rfl | exact cU_in.symm)
    · skip
      refine g_iload_n (i := 3) C dX1_told_11 rfl rfl ?_
      refine g_if_lt (tgt := 20) C dX1_told_12 (by decide) (fun c12_3 => ?_) (fun c12_3 => ?_)
      · skip
        refine g_ldc (v := (-1000000001)) C dX1_told_20 kc_X1_133 ?_
        exact hR _ _ _ _ () dX1_told_22 (by rw [cTold, c4_1, cond_true, if_neg c8_2, if_pos c12_3] <;> rfl) (by first | rfl | exact cU_in.symm)
      · skip
        refine g_iload_n (i := 3) C dX1_told_15 rfl rfl ?_
        refine g_iconst (v := 2) C dX1_told_16 (by decide) ?_
        refine g_icmp_le (tgt := 23) C dX1_told_17 (by decide) (fun c17_4 => ?_) (fun c17_4 => ?_)
        · skip
          refine g_aload_n (i := 0) C dX1_told_23 rfl rfl ?_
          refine g_get C dX1_told_24 fl_X1_31 0 rfl rfl ?_
          refine g_iload_n (i := 1) C dX1_told_27 rfl rfl ?_
          refine g_aald (b := (ad (5 + z.toNatClampNeg))) C dX1_told_28 4 rfl (isSm_in c4_1) (soF_in c4_1) ?_
          refine g_iload_n (i := 2) C dX1_told_29 rfl rfl ?_
          refine g_eqw (cU_in (z := z.toNatClampNeg)) ?_
          refine g_callVN (av := [.int i]) C dX1_told_30 ln_X1_134 mf_X0_slotOfTerm (5 + z.toNatClampNeg) (cU_S (isSm_z c4_1)) rfl (kX0_slotOfTerm K ad S X z.toNatClampNeg (fC S z.toNatClampNeg) i (isSm_z c4_1)  ) rfl rfl (Nat.le_of_ble_eq_true rfl) ⟨Nat.le_of_ble_eq_true rfl, Nat.le_of_ble_eq_true rfl⟩ ⟨Nat.zero_le _, Nat.zero_le _⟩ (fun _ => ?_)
          refine g_eqw (Eq.symm (cU_in (z := z.toNatClampNeg))) ?_
          refine g_istore (lv2 := [(0, .ref (ad 0)), (1, .int z), (2, .int i), (3, .int w), (4, .int (sltR (fC S z.toNatClampNeg) i))]) C dX1_told_33 (by decide) rfl ?_
          refine g_iload C dX1_told_35 rfl ?_
          refine g_if_ge (tgt := 43) C dX1_told_37 (by decide) (fun c37_5 => ?_) (fun c37_5 => ?_)
          · skip
            refine g_iload_n (i := 3) C dX1_told_43 rfl rfl ?_
            refine g_if_ne (tgt := 53) C dX1_told_44 (by decide) (fun c44_6 => ?_) (fun c44_6 => ?_)
            · skip
              refine g_aload_n (i := 0) C dX1_told_53 rfl rfl ?_
              refine g_get C dX1_told_54 fl_X1_31 0 rfl rfl ?_
              refine g_iload_n (i := 1) C dX1_told_57 rfl rfl ?_
              refine g_aald (b := (ad (5 + z.toNatClampNeg))) C dX1_told_58 4 rfl (isSm_in c4_1) (soF_in c4_1) ?_
              refine g_getN C dX1_told_59 fl_X1_122 (5 + z.toNatClampNeg) (cW_S (isSm_z c4_1)) rfl ?_
              refine g_iload C dX1_told_62 rfl ?_
              refine g_lald C dX1_told_64 (15 + z.toNatClampNeg) (cW_A (isSm_z c4_1)) (sltR_in2 c37_5) ?_
              refine g_lstore (lv2 := [(0, .ref (ad 0)), (1, .int z), (2, .int i), (3, .int w), (4, .int (sltR (fC S z.toNatClampNeg) i)), (5, .long ((S.2.2.2.2.2 z.toNatClampNeg) (sltR (fC S z.toNatClampNeg) i).toNatClampNeg))]) C dX1_told_65 (by decide) rfl ?_
              refine g_iload_n (i := 3) C dX1_told_67 rfl rfl ?_
              refine g_iconst (v := 1) C dX1_told_68 (by decide) ?_
              refine g_icmp_ne (tgt := 82) C dX1_told_69 (by decide) (fun c69_7 => ?_) (fun c69_7 => ?_)
              · skip
                refine g_lload C dX1_told_82 rfl ?_
                refine g_bipush (v := 20) C dX1_told_84 (by decide) ?_
                refine g_callS (av := [.long ((S.2.2.2.2.2 z.toNatClampNeg) (sltR (fC S z.toNatClampNeg) i).toNatClampNeg), .int 20]) C dX1_told_86 ln_X1_67 mf_X1_leastBelow (kX1_leastBelow K (cW K ad S X) ((S.2.2.2.2.2 z.toNatClampNeg) (sltR (fC S z.toNatClampNeg) i).toNatClampNeg) 20) rfl rfl (Nat.le_of_ble_eq_true rfl) ⟨Nat.le_of_ble_eq_true rfl, Nat.le_of_ble_eq_true rfl⟩ ⟨Nat.zero_le _, Nat.zero_le _⟩ (fun _ => ?_)
                exact hR _ _ _ _ () dX1_told_89 (by rw [cTold, c4_1, cond_true, if_neg c8_2, if_neg c12_3, if_pos c17_4, if_pos c37_5, if_neg c44_6, if_neg c69_7] <;> rfl) (by first | rfl | exact cU_in.symm)
              · skip
                refine g_lload C dX1_told_72 rfl ?_
                refine g_bipush (v := 20) C dX1_told_74 (by decide) ?_
                refine g_callS (av := [.long ((S.2.2.2.2.2 z.toNatClampNeg) (sltR (fC S z.toNatClampNeg) i).toNatClampNeg), .int 20]) C dX1_told_76 ln_X1_63 mf_X1_leastAbove (kX1_leastAbove K (cW K ad S X) ((S.2.2.2.2.2 z.toNatClampNeg) (sltR (fC S z.toNatClampNeg) i).toNatClampNeg) 20) rfl rfl (Nat.le_of_ble_eq_true rfl) ⟨Nat.le_of_ble_eq_true rfl, Nat.le_of_ble_eq_true rfl⟩ ⟨Nat.zero_le _, Nat.zero_le _⟩ (fun _ => ?_)
                refine g_goto (tgt := 89) C dX1_told_79 (by decide) ?_
                exact hR _ _ _ _ () dX1_told_89 (by rw [cTold, c4_1, cond_true, if_neg c8_2, if_neg c12_3, if_pos c17_4, if_pos c37_5, if_neg c44_6, if_pos c69_7] <;> rfl) (by first | rfl | exact cU_in.symm)
            · skip
              refine g_iload C dX1_told_47 rfl ?_
              refine g_bipush (v := 6) C dX1_told_49 (by decide) ?_
              refine g_isub C dX1_told_51 ?_
              exact hR _ _ _ _ () dX1_told_52 (by rw [cTold, c4_1, cond_true, if_neg c8_2, if_neg c12_3, if_pos c17_4, if_pos c37_5, if_pos c44_6] <;> rfl) (by first | rfl | exact cU_in.symm)
          · skip
            refine g_ldc (v := (-1000000004)) C dX1_told_40 kc_X1_137 ?_
            exact hR _ _ _ _ () dX1_told_42 (by rw [cTold, c4_1, cond_true, if_neg c8_2, if_neg c12_3, if_pos c17_4, if_neg c37_5] <;> rfl) (by first | rfl | exact cU_in.symm)
        · skip
          refine g_ldc (v := (-1000000001)) C dX1_told_20 kc_X1_133 ?_
          exact hR _ _ _ _ () dX1_told_22 (by rw [cTold, c4_1, cond_true, if_neg c8_2, if_neg c12_3, if_neg c17_4] <;> rfl) (by first | rfl | exact cU_in.symm)

set_option maxHeartbeats 600000 in
set_option maxRecDepth 100000 in
theorem kX1_sum (K : KT) (ad : Nat → Nat) (S : CS) (X : va_W) (z : Int32) (how : Int32) (x : Int32) (y : Int32) : ∀ lau : Launch, Con lau yX1_sum cX1_sum 6 (some .int) 7 167 K (cW K ad S X) (fun _ : Unit => cW K ad ((cSum S z how x y).2) X) [.ref (ad 0), .int z, .int how, .int x, .int y] (some (.int ((cSum S z how x y).1))) := by
  refine conI (by decide) (Nat.le_of_ble_eq_true rfl) (fun E C hR => ?_)
  show G E K 0 0 (cW K ad S X) [(0, .ref (ad 0)), (1, .int z), (2, .int how), (3, .int x), (4, .int y)] 0 []
  refine g_iload_n (i := 1) C dX1_sum_0 rfl rfl ?_
  refine g_callS (av := [.int z]) C dX1_sum_1 ln_X1_116 mf_X1_isSum (kX1_isSum K (cW K ad S X) z) rfl rfl (Nat.le_of_ble_eq_true rfl) ⟨Nat.le_of_ble_eq_true rfl, Nat.le_of_ble_eq_true rfl⟩ ⟨Nat.zero_le _, Nat.zero_le _⟩ (fun _ => ?_)
  refine g_bz_eq (tgt := 31) C dX1_sum_4 (by decide) (fun c4_1 => ?_) (fun c4_1 => ?_)
  · skip
    refine g_iconst (v := (-1)) C dX1_sum_31 (by decide) ?_
    exact hR _ _ _ _ () dX1_sum_32 (by rw [cSum, c4_1, cond_false] <;> rfl) (by show _ = cW K ad (cSum S z how x y).2 X; rw [cSum, c4_1, cond_false] <;> rfl)
  · skip
    refine g_iload_n (i := 2) C dX1_sum_7 rfl rfl ?_
    refine g_if_lt (tgt := 31) C dX1_sum_8 (by decide) (fun c8_2 => ?_) (fun c8_2 => ?_)
    · skip
      refine g_iconst (v := (-1)) C dX1_sum_31 (by decide) ?_
      exact hR _ _ _ _ () dX1_sum_32 (by rw [cSum, c4_1, cond_true, if_pos c8_2] <;> rfl) (by show _ = cW K ad (cSum S z how x y).2 X; rw [cSum, c4_1, cond_true, if_pos c8_2] <;> rfl)
    · skip
      refine g_iload_n (i := 2) C dX1_sum_11 rfl rfl ?_
      refine g_iconst (v := 2) C dX1_sum_12 (by decide) ?_
      refine g_icmp_gt (tgt := 31) C dX1_sum_13 (by decide) (fun c13_3 => ?_) (fun c13_3 => ?_)
      · skip
        refine g_iconst (v := (-1)) C dX1_sum_31 (by decide) ?_
        exact hR _ _ _ _ () dX1_sum_32 (by rw [cSum, c4_1, cond_true, if_neg c8_2, if_pos c13_3] <;> rfl) (by show _ = cW K ad (cSum S z how x y).2 X; rw [cSum, c4_1, cond_true, if_neg c8_2, if_pos c13_3] <;> rfl)
      · skip
        refine g_iload_n (i := 3) C dX1_sum_16 rfl rfl ?_
        refine g_callS (av := [.int x]) C dX1_sum_17 ln_X1_116 mf_X1_isSum (kX1_isSum K (cW K ad S X) x) rfl rfl (Nat.le_of_ble_eq_true rfl) ⟨Nat.le_of_ble_eq_true rfl, Nat.le_of_ble_eq_true rfl⟩ ⟨Nat.zero_le _, Nat.zero_le _⟩ (fun _ => ?_)
        refine g_bz_eq (tgt := 31) C dX1_sum_20 (by decide) (fun c20_4 => ?_) (fun c20_4 => ?_)
        · skip
          refine g_iconst (v := (-1)) C dX1_sum_31 (by decide) ?_
          exact hR _ _ _ _ () dX1_sum_32 (by rw [cSum, c4_1, cond_true, if_neg c8_2, if_neg c13_3, c20_4, cond_false] <;> rfl) (by show _ = cW K ad (cSum S z how x y).2 X; rw [cSum, c4_1, cond_true, if_neg c8_2, if_neg c13_3, c20_4, cond_false] <;> rfl)
        · skip
          refine g_iload C dX1_sum_23 rfl ?_
          refine g_callS (av := [.int y]) C dX1_sum_25 ln_X1_116 mf_X1_isSum (kX1_isSum K (cW K ad S X) y) rfl rfl (Nat.le_of_ble_eq_true rfl) ⟨Nat.le_of_ble_eq_true rfl, Nat.le_of_ble_eq_true rfl⟩ ⟨Nat.zero_le _, Nat.zero_le _⟩ (fun _ => ?_)
          refine g_bz_ne (tgt := 33) C dX1_sum_28 (by decide) (fun c28_5 => ?_) (fun c28_5 => ?_)
          · skip
            refine g_iload_n (i := 2) C dX1_sum_33 rfl rfl ?_
            refine g_iconst (v := 2) C dX1_sum_34 (by decide) ?_
            refine g_icmp_ne (tgt := 61) C dX1_sum_35 (by decide) (fun c35_6 => ?_) (fun c35_6 => ?_)
            · skip
              refine g_aload_n (i := 0) C dX1_sum_61 rfl rfl ?_
              refine g_get C dX1_sum_62 fl_X1_36 0 rfl rfl ?_
              refine g_aload_n (i := 0) C dX1_sum_65 rfl rfl ?_
              refine g_get C dX1_sum_66 fl_X1_31 0 rfl rfl ?_
              refine g_iload_n (i := 3) C dX1_sum_69 rfl rfl ?_
              refine g_aald (b := (ad (5 + x.toNatClampNeg))) C dX1_sum_70 4 rfl (isSm_in c20_4) (soF_in c20_4) ?_
              refine g_aload_n (i := 0) C dX1_sum_71 rfl rfl ?_
              refine g_get C dX1_sum_72 fl_X1_31 0 rfl rfl ?_
              refine g_iload C dX1_sum_75 rfl ?_
              refine g_aald (b := (ad (5 + y.toNatClampNeg))) C dX1_sum_77 4 rfl (isSm_in c28_5) (soF_in c28_5) ?_
              refine g_iload_n (i := 2) C dX1_sum_78 rfl rfl ?_
              refine g_iconst (v := 1) C dX1_sum_79 (by decide) ?_
              refine g_dia_icmp_ne (tgt := 87) C dX1_sum_80 dX1_sum_83 dX1_sum_84 dX1_sum_87 (by decide) (by decide) trivial ?_
              refine g_eqw (cU_in (z := 8)) ?_
              refine g_callVN (av := [.ref (ad (5 + x.toNatClampNeg)), .ref (ad (5 + y.toNatClampNeg)), .int (bz (decide (how = 1)))]) C dX1_sum_88 ln_X1_142 mf_X0_becomeTogether (5 + 8) (cU_S (by decide)) rfl (kX0_becomeTogether K ad S X 8 (fC S 8) x.toNatClampNeg y.toNatClampNeg (decide (how = 1)) (by decide) (isSm_z c20_4) (isSm_n8 c20_4) (isSm_z c28_5) (isSm_n8 c28_5) ) rfl rfl (Nat.le_of_ble_eq_true rfl) ⟨Nat.le_of_ble_eq_true rfl, Nat.le_of_ble_eq_true rfl⟩ ⟨Nat.zero_le _, Nat.zero_le _⟩ (fun _ => ?_)
              refine g_istore (lv2 := [(0, .ref (ad 0)), (1, .int z), (2, .int how), (3, .int x), (4, .int y), (5, .int (bz (btF (fC S y.toNatClampNeg) (decide (how = 1)) 13 (cpyG (fC S x.toNatClampNeg) (fC S 8) 13)).1))]) C dX1_sum_91 (by decide) rfl ?_
              refine g_iload C dX1_sum_93 rfl ?_
              refine g_bz_ne (tgt := 101) C dX1_sum_95 (by decide) (fun c95_7 => ?_) (fun c95_7 => ?_)
              · skip
                refine g_aload_n (i := 0) C dX1_sum_101 rfl rfl ?_
                refine g_get C dX1_sum_102 fl_X1_31 0 rfl rfl ?_
                refine g_iload_n (i := 1) C dX1_sum_105 rfl rfl ?_
                refine g_aald (b := (ad (5 + z.toNatClampNeg))) C dX1_sum_106 4 rfl (isSm_in c4_1) (soF_in c4_1) ?_
                refine g_aload_n (i := 0) C dX1_sum_107 rfl rfl ?_
                refine g_get C dX1_sum_108 fl_X1_36 0 rfl rfl ?_
                refine g_eqw (cU_in (z := z.toNatClampNeg)) ?_
                refine g_callVN (av := [.ref (ad 13)]) C dX1_sum_111 ln_X1_146 mf_X0_become (5 + z.toNatClampNeg) (cU_S (isSm_z c4_1)) rfl (kX0_become K ad (sF S (uF (fC S) 8 ((btF (fC S y.toNatClampNeg) (decide (how = 1)) 13 (cpyG (fC S x.toNatClampNeg) (fC S 8) 13)).2))) X z.toNatClampNeg (fC (sF S (uF (fC S) 8 ((btF (fC S y.toNatClampNeg) (decide (how = 1)) 13 (cpyG (fC S x.toNatClampNeg) (fC S 8) 13)).2))) z.toNatClampNeg) 8 (isSm_z c4_1) (by decide) (Ne.symm (isSm_n8 c4_1)) ) rfl rfl (Nat.le_of_ble_eq_true rfl) ⟨Nat.le_of_ble_eq_true rfl, Nat.le_of_ble_eq_true rfl⟩ ⟨Nat.zero_le _, Nat.zero_le _⟩ (fun _ => ?_)
                refine g_aload_n (i := 0) C dX1_sum_114 rfl rfl ?_
                refine g_get C dX1_sum_115 fl_X1_31 0 rfl rfl ?_
                refine g_iload_n (i := 1) C dX1_sum_118 rfl rfl ?_
                refine g_aald (b := (ad (5 + z.toNatClampNeg))) C dX1_sum_119 4 rfl (isSm_in c4_1) (soF_in c4_1) ?_
                refine g_callVN (av := []) C dX1_sum_120 ln_X1_129 mf_X0_countTerms (5 + z.toNatClampNeg) (cU_S (isSm_z c4_1)) rfl (kX0_countTerms K ad (sF S (uF (fC S) 8 ((btF (fC S y.toNatClampNeg) (decide (how = 1)) 13 (cpyG (fC S x.toNatClampNeg) (fC S 8) 13)).2))) X z.toNatClampNeg (cpyG (fC (sF S (uF (fC S) 8 ((btF (fC S y.toNatClampNeg) (decide (how = 1)) 13 (cpyG (fC S x.toNatClampNeg) (fC S 8) 13)).2))) 8) (fC (sF S (uF (fC S) 8 ((btF (fC S y.toNatClampNeg) (decide (how = 1)) 13 (cpyG (fC S x.toNatClampNeg) (fC S 8) 13)).2))) z.toNatClampNeg) 13)  (isSm_z c4_1)  ) rfl rfl (Nat.le_of_ble_eq_true rfl) ⟨Nat.le_of_ble_eq_true rfl, Nat.le_of_ble_eq_true rfl⟩ ⟨Nat.zero_le _, Nat.zero_le _⟩ (fun _ => ?_)
                exact hR _ _ _ _ () dX1_sum_123 (by rw [cSum, c4_1, cond_true, if_neg c8_2, if_neg c13_3, c20_4, cond_true, c28_5, cond_true, if_neg c35_6, sumE, show (sumT S x y (decide (how = 1))).1 = true from c95_7, cond_true] <;> rfl) (by show _ = cW K ad (cSum S z how x y).2 X; rw [cSum, c4_1, cond_true, if_neg c8_2, if_neg c13_3, c20_4, cond_true, c28_5, cond_true, if_neg c35_6, sumE, show (sumT S x y (decide (how = 1))).1 = true from c95_7, cond_true] <;> rfl)
              · skip
                refine g_bipush (v := (-5)) C dX1_sum_98 (by decide) ?_
                exact hR _ _ _ _ () dX1_sum_100 (by rw [cSum, c4_1, cond_true, if_neg c8_2, if_neg c13_3, c20_4, cond_true, c28_5, cond_true, if_neg c35_6, sumE, show (sumT S x y (decide (how = 1))).1 = false from c95_7, cond_false] <;> rfl) (by show _ = cW K ad (cSum S z how x y).2 X; rw [cSum, c4_1, cond_true, if_neg c8_2, if_neg c13_3, c20_4, cond_true, c28_5, cond_true, if_neg c35_6, sumE, show (sumT S x y (decide (how = 1))).1 = false from c95_7, cond_false] <;> rfl)
            · skip
              refine g_aload_n (i := 0) C dX1_sum_38 rfl rfl ?_
              refine g_get C dX1_sum_39 fl_X1_36 0 rfl rfl ?_
              refine g_aload_n (i := 0) C dX1_sum_42 rfl rfl ?_
              refine g_get C dX1_sum_43 fl_X1_31 0 rfl rfl ?_
              refine g_iload_n (i := 3) C dX1_sum_46 rfl rfl ?_
              refine g_aald (b := (ad (5 + x.toNatClampNeg))) C dX1_sum_47 4 rfl (isSm_in c20_4) (soF_in c20_4) ?_
              refine g_aload_n (i := 0) C dX1_sum_48 rfl rfl ?_
              refine g_get C dX1_sum_49 fl_X1_31 0 rfl rfl ?_
              refine g_iload C dX1_sum_52 rfl ?_
              refine g_aald (b := (ad (5 + y.toNatClampNeg))) C dX1_sum_54 4 rfl (isSm_in c28_5) (soF_in c28_5) ?_
              refine g_eqw (cU_in (z := 8)) ?_
              refine g_callVN (av := [.ref (ad (5 + x.toNatClampNeg)), .ref (ad (5 + y.toNatClampNeg))]) C dX1_sum_55 ln_X1_138 mf_X0_becomeProduct (5 + 8) (cU_S (by decide)) rfl (kX0_becomeProduct K ad S X 8 (fC S 8) x.toNatClampNeg y.toNatClampNeg (by decide) (isSm_z c20_4) (isSm_n8 c20_4) (isSm_z c28_5) (isSm_n8 c28_5) ) rfl rfl (Nat.le_of_ble_eq_true rfl) ⟨Nat.le_of_ble_eq_true rfl, Nat.le_of_ble_eq_true rfl⟩ ⟨Nat.zero_le _, Nat.zero_le _⟩ (fun _ => ?_)
              refine g_goto (tgt := 91) C dX1_sum_58 (by decide) ?_
              refine g_istore (lv2 := [(0, .ref (ad 0)), (1, .int z), (2, .int how), (3, .int x), (4, .int y), (5, .int (bz (bpF (fC S x.toNatClampNeg) (fC S y.toNatClampNeg) 13 (cpyG (fun _ => 0) (fC S 8) 13)).1))]) C dX1_sum_91 (by decide) rfl ?_
              refine g_iload C dX1_sum_93 rfl ?_
              refine g_bz_ne (tgt := 101) C dX1_sum_95 (by decide) (fun c95_8 => ?_) (fun c95_8 => ?_)
              · skip
                refine g_aload_n (i := 0) C dX1_sum_101 rfl rfl ?_
                refine g_get C dX1_sum_102 fl_X1_31 0 rfl rfl ?_
                refine g_iload_n (i := 1) C dX1_sum_105 rfl rfl ?_
                refine g_aald (b := (ad (5 + z.toNatClampNeg))) C dX1_sum_106 4 rfl (isSm_in c4_1) (soF_in c4_1) ?_
                refine g_aload_n (i := 0) C dX1_sum_107 rfl rfl ?_
                refine g_get C dX1_sum_108 fl_X1_36 0 rfl rfl ?_
                refine g_eqw (cU_in (z := z.toNatClampNeg)) ?_
                refine g_callVN (av := [.ref (ad 13)]) C dX1_sum_111 ln_X1_146 mf_X0_become (5 + z.toNatClampNeg) (cU_S (isSm_z c4_1)) rfl (kX0_become K ad (sF S (uF (fC S) 8 ((bpF (fC S x.toNatClampNeg) (fC S y.toNatClampNeg) 13 (cpyG (fun _ => 0) (fC S 8) 13)).2))) X z.toNatClampNeg (fC (sF S (uF (fC S) 8 ((bpF (fC S x.toNatClampNeg) (fC S y.toNatClampNeg) 13 (cpyG (fun _ => 0) (fC S 8) 13)).2))) z.toNatClampNeg) 8 (isSm_z c4_1) (by decide) (Ne.symm (isSm_n8 c4_1)) ) rfl rfl (Nat.le_of_ble_eq_true rfl) ⟨Nat.le_of_ble_eq_true rfl, Nat.le_of_ble_eq_true rfl⟩ ⟨Nat.zero_le _, Nat.zero_le _⟩ (fun _ => ?_)
                refine g_aload_n (i := 0) C dX1_sum_114 rfl rfl ?_
                refine g_get C dX1_sum_115 fl_X1_31 0 rfl rfl ?_
                refine g_iload_n (i := 1) C dX1_sum_118 rfl rfl ?_
                refine g_aald (b := (ad (5 + z.toNatClampNeg))) C dX1_sum_119 4 rfl (isSm_in c4_1) (soF_in c4_1) ?_
                refine g_callVN (av := []) C dX1_sum_120 ln_X1_129 mf_X0_countTerms (5 + z.toNatClampNeg) (cU_S (isSm_z c4_1)) rfl (kX0_countTerms K ad (sF S (uF (fC S) 8 ((bpF (fC S x.toNatClampNeg) (fC S y.toNatClampNeg) 13 (cpyG (fun _ => 0) (fC S 8) 13)).2))) X z.toNatClampNeg (cpyG (fC (sF S (uF (fC S) 8 ((bpF (fC S x.toNatClampNeg) (fC S y.toNatClampNeg) 13 (cpyG (fun _ => 0) (fC S 8) 13)).2))) 8) (fC (sF S (uF (fC S) 8 ((bpF (fC S x.toNatClampNeg) (fC S y.toNatClampNeg) 13 (cpyG (fun _ => 0) (fC S 8) 13)).2))) z.toNatClampNeg) 13)  (isSm_z c4_1)  ) rfl rfl (Nat.le_of_ble_eq_true rfl) ⟨Nat.le_of_ble_eq_true rfl, Nat.le_of_ble_eq_true rfl⟩ ⟨Nat.zero_le _, Nat.zero_le _⟩ (fun _ => ?_)
                exact hR _ _ _ _ () dX1_sum_123 (by rw [cSum, c4_1, cond_true, if_neg c8_2, if_neg c13_3, c20_4, cond_true, c28_5, cond_true, if_pos c35_6, sumE, show (sumP S x y).1 = true from c95_8, cond_true] <;> rfl) (by show _ = cW K ad (cSum S z how x y).2 X; rw [cSum, c4_1, cond_true, if_neg c8_2, if_neg c13_3, c20_4, cond_true, c28_5, cond_true, if_pos c35_6, sumE, show (sumP S x y).1 = true from c95_8, cond_true] <;> rfl)
              · skip
                refine g_bipush (v := (-5)) C dX1_sum_98 (by decide) ?_
                exact hR _ _ _ _ () dX1_sum_100 (by rw [cSum, c4_1, cond_true, if_neg c8_2, if_neg c13_3, c20_4, cond_true, c28_5, cond_true, if_pos c35_6, sumE, show (sumP S x y).1 = false from c95_8, cond_false] <;> rfl) (by show _ = cW K ad (cSum S z how x y).2 X; rw [cSum, c4_1, cond_true, if_neg c8_2, if_neg c13_3, c20_4, cond_true, c28_5, cond_true, if_pos c35_6, sumE, show (sumP S x y).1 = false from c95_8, cond_false] <;> rfl)
          · skip
            refine g_iconst (v := (-1)) C dX1_sum_31 (by decide) ?_
            exact hR _ _ _ _ () dX1_sum_32 (by rw [cSum, c4_1, cond_true, if_neg c8_2, if_neg c13_3, c20_4, cond_true, c28_5, cond_false] <;> rfl) (by show _ = cW K ad (cSum S z how x y).2 X; rw [cSum, c4_1, cond_true, if_neg c8_2, if_neg c13_3, c20_4, cond_true, c28_5, cond_false] <;> rfl)

set_option maxHeartbeats 600000 in
set_option maxRecDepth 100000 in
theorem kX1_order (K : KT) (ad : Nat → Nat) (S : CS) (X : va_W) (x : Int32) (y : Int32) : ∀ lau : Launch, Con lau yX1_order cX1_order 4 (some .int) 6 141 K (cW K ad S X) (fun _ : Unit => cW K ad ((cOrd S x y).2) X) [.ref (ad 0), .int x, .int y] (some (.int ((cOrd S x y).1))) := by
  refine conI (by decide) (Nat.le_of_ble_eq_true rfl) (fun E C hR => ?_)
  show G E K 0 0 (cW K ad S X) [(0, .ref (ad 0)), (1, .int x), (2, .int y)] 0 []
  refine g_iload_n (i := 1) C dX1_order_0 rfl rfl ?_
  refine g_callS (av := [.int x]) C dX1_order_1 ln_X1_116 mf_X1_isSum (kX1_isSum K (cW K ad S X) x) rfl rfl (Nat.le_of_ble_eq_true rfl) ⟨Nat.le_of_ble_eq_true rfl, Nat.le_of_ble_eq_true rfl⟩ ⟨Nat.zero_le _, Nat.zero_le _⟩ (fun _ => ?_)
  refine g_bz_eq (tgt := 14) C dX1_order_4 (by decide) (fun c4_1 => ?_) (fun c4_1 => ?_)
  · skip
    refine g_bipush (v := (-9)) C dX1_order_14 (by decide) ?_
    exact hR _ _ _ _ () dX1_order_16 (by rw [cOrd, c4_1, cond_false] <;> rfl) (by show _ = cW K ad (cOrd S x y).2 X; rw [cOrd, c4_1, cond_false] <;> rfl)
  · skip
    refine g_iload_n (i := 2) C dX1_order_7 rfl rfl ?_
    refine g_callS (av := [.int y]) C dX1_order_8 ln_X1_116 mf_X1_isSum (kX1_isSum K (cW K ad S X) y) rfl rfl (Nat.le_of_ble_eq_true rfl) ⟨Nat.le_of_ble_eq_true rfl, Nat.le_of_ble_eq_true rfl⟩ ⟨Nat.zero_le _, Nat.zero_le _⟩ (fun _ => ?_)
    refine g_bz_ne (tgt := 17) C dX1_order_11 (by decide) (fun c11_2 => ?_) (fun c11_2 => ?_)
    · skip
      refine g_aload_n (i := 0) C dX1_order_17 rfl rfl ?_
      refine g_get C dX1_order_18 fl_X1_36 0 rfl rfl ?_
      refine g_aload_n (i := 0) C dX1_order_21 rfl rfl ?_
      refine g_get C dX1_order_22 fl_X1_31 0 rfl rfl ?_
      refine g_iload_n (i := 1) C dX1_order_25 rfl rfl ?_
      refine g_aald (b := (ad (5 + x.toNatClampNeg))) C dX1_order_26 4 rfl (isSm_in c4_1) (soF_in c4_1) ?_
      refine g_aload_n (i := 0) C dX1_order_27 rfl rfl ?_
      refine g_get C dX1_order_28 fl_X1_31 0 rfl rfl ?_
      refine g_iload_n (i := 2) C dX1_order_31 rfl rfl ?_
      refine g_aald (b := (ad (5 + y.toNatClampNeg))) C dX1_order_32 4 rfl (isSm_in c11_2) (soF_in c11_2) ?_
      refine g_iconst (v := 1) C dX1_order_33 (by decide) ?_
      refine g_eqw (cU_in (z := 8)) ?_
      refine g_callVN (av := [.ref (ad (5 + x.toNatClampNeg)), .ref (ad (5 + y.toNatClampNeg)), .int 1]) C dX1_order_34 ln_X1_142 mf_X0_becomeTogether (5 + 8) (cU_S (by decide)) rfl (kX0_becomeTogether K ad S X 8 (fC S 8) x.toNatClampNeg y.toNatClampNeg true (by decide) (isSm_z c4_1) (isSm_n8 c4_1) (isSm_z c11_2) (isSm_n8 c11_2) ) rfl rfl (Nat.le_of_ble_eq_true rfl) ⟨Nat.le_of_ble_eq_true rfl, Nat.le_of_ble_eq_true rfl⟩ ⟨Nat.zero_le _, Nat.zero_le _⟩ (fun _ => ?_)
      refine g_bz_ne (tgt := 43) C dX1_order_37 (by decide) (fun c37_3 => ?_) (fun c37_3 => ?_)
      · skip
        refine g_aload_n (i := 0) C dX1_order_43 rfl rfl ?_
        refine g_get C dX1_order_44 fl_X1_36 0 rfl rfl ?_
        refine g_iconst (v := 0) C dX1_order_47 (by decide) ?_
        refine g_callVN (av := [.int 0]) C dX1_order_48 ln_X1_134 mf_X0_slotOfTerm (5 + 8) (cU_S (by decide)) rfl (kX0_slotOfTerm K ad S X 8 ((btF (fC S y.toNatClampNeg) true 13 (cpyG (fC S x.toNatClampNeg) (fC S 8) 13)).2) 0 (by decide)  ) rfl rfl (Nat.le_of_ble_eq_true rfl) ⟨Nat.le_of_ble_eq_true rfl, Nat.le_of_ble_eq_true rfl⟩ ⟨Nat.zero_le _, Nat.zero_le _⟩ (fun _ => ?_)
        refine g_istore_n (i := 3) (lv2 := [(0, .ref (ad 0)), (1, .int x), (2, .int y), (3, .int (sltR ((btF (fC S y.toNatClampNeg) true 13 (cpyG (fC S x.toNatClampNeg) (fC S 8) 13)).2) 0))]) C dX1_order_51 rfl (by decide) rfl ?_
        refine g_iload_n (i := 3) C dX1_order_52 rfl rfl ?_
        refine g_if_ge (tgt := 60) C dX1_order_53 (by decide) (fun c53_4 => ?_) (fun c53_4 => ?_)
        · skip
          refine g_aload_n (i := 0) C dX1_order_60 rfl rfl ?_
          refine g_get C dX1_order_61 fl_X1_36 0 rfl rfl ?_
          refine g_getN C dX1_order_64 fl_X1_122 (5 + 8) (cU_S (by decide)) rfl ?_
          refine g_iload_n (i := 3) C dX1_order_67 rfl rfl ?_
          refine g_lald C dX1_order_68 (15 + 8) (cU_A (by decide)) (sltR_in2 c53_4) ?_
          refine g_callS (av := [.long (((btF (fC S y.toNatClampNeg) true 13 (cpyG (fC S x.toNatClampNeg) (fC S 8) 13)).2) (sltR ((btF (fC S y.toNatClampNeg) true 13 (cpyG (fC S x.toNatClampNeg) (fC S 8) 13)).2) 0).toNatClampNeg)]) C dX1_order_69 ln_X1_70 mf_X1_signOf (kX1_signOf K (cU K ad S 8 ((btF (fC S y.toNatClampNeg) true 13 (cpyG (fC S x.toNatClampNeg) (fC S 8) 13)).2) X) (((btF (fC S y.toNatClampNeg) true 13 (cpyG (fC S x.toNatClampNeg) (fC S 8) 13)).2) (sltR ((btF (fC S y.toNatClampNeg) true 13 (cpyG (fC S x.toNatClampNeg) (fC S 8) 13)).2) 0).toNatClampNeg)) rfl rfl (Nat.le_of_ble_eq_true rfl) ⟨Nat.le_of_ble_eq_true rfl, Nat.le_of_ble_eq_true rfl⟩ ⟨Nat.zero_le _, Nat.zero_le _⟩ (fun _ => ?_)
          exact hR _ _ _ _ () dX1_order_72 (by rw [cOrd, c4_1, cond_true, c11_2, cond_true, show (sumT S x y true).1 = true from c37_3, cond_true, if_pos (show 0 ≤ sltR (sumT S x y true).2 0 from c53_4)] <;> rfl) (by show _ = cW K ad (cOrd S x y).2 X; rw [cOrd, c4_1, cond_true, c11_2, cond_true, show (sumT S x y true).1 = true from c37_3, cond_true, if_pos (show 0 ≤ sltR (sumT S x y true).2 0 from c53_4)] <;> rfl)
        · skip
          refine g_iconst (v := 0) C dX1_order_56 (by decide) ?_
          refine g_goto (tgt := 72) C dX1_order_57 (by decide) ?_
          exact hR _ _ _ _ () dX1_order_72 (by rw [cOrd, c4_1, cond_true, c11_2, cond_true, show (sumT S x y true).1 = true from c37_3, cond_true, if_neg (show ¬ 0 ≤ sltR (sumT S x y true).2 0 from c53_4)] <;> rfl) (by show _ = cW K ad (cOrd S x y).2 X; rw [cOrd, c4_1, cond_true, c11_2, cond_true, show (sumT S x y true).1 = true from c37_3, cond_true, if_neg (show ¬ 0 ≤ sltR (sumT S x y true).2 0 from c53_4)] <;> rfl)
      · skip
        refine g_bipush (v := (-5)) C dX1_order_40 (by decide) ?_
        exact hR _ _ _ _ () dX1_order_42 (by rw [cOrd, c4_1, cond_true, c11_2, cond_true, show (sumT S x y true).1 = false from c37_3, cond_false] <;> rfl) (by show _ = cW K ad (cOrd S x y).2 X; rw [cOrd, c4_1, cond_true, c11_2, cond_true, show (sumT S x y true).1 = false from c37_3, cond_false] <;> rfl)
    · skip
      refine g_bipush (v := (-9)) C dX1_order_14 (by decide) ?_
      exact hR _ _ _ _ () dX1_order_16 (by rw [cOrd, c4_1, cond_true, c11_2, cond_false] <;> rfl) (by show _ = cW K ad (cOrd S x y).2 X; rw [cOrd, c4_1, cond_true, c11_2, cond_false] <;> rfl)

set_option maxHeartbeats 600000 in
set_option maxRecDepth 100000 in
theorem kX1_take (K : KT) (ad : Nat → Nat) (S : CS) (X : va_W) (z : Int32) (s : Int32) : ∀ lau : Launch, Con lau yX1_take cX1_take 5 (some .int) 4 89 K (cW K ad S X) (fun _ : Unit => cW K ad ((cTake S z s).2) X) [.ref (ad 0), .int z, .int s] (some (.int ((cTake S z s).1))) := by
  refine conI (by decide) (Nat.le_of_ble_eq_true rfl) (fun E C hR => ?_)
  show G E K 0 0 (cW K ad S X) [(0, .ref (ad 0)), (1, .int z), (2, .int s)] 0 []
  refine g_iload_n (i := 1) C dX1_take_0 rfl rfl ?_
  refine g_callS (av := [.int z]) C dX1_take_1 ln_X1_116 mf_X1_isSum (kX1_isSum K (cW K ad S X) z) rfl rfl (Nat.le_of_ble_eq_true rfl) ⟨Nat.le_of_ble_eq_true rfl, Nat.le_of_ble_eq_true rfl⟩ ⟨Nat.zero_le _, Nat.zero_le _⟩ (fun _ => ?_)
  refine g_bz_eq (tgt := 14) C dX1_take_4 (by decide) (fun c4_1 => ?_) (fun c4_1 => ?_)
  · skip
    refine g_iconst (v := (-1)) C dX1_take_14 (by decide) ?_
    exact hR _ _ _ _ () dX1_take_15 (by rw [cTake, c4_1, cond_false] <;> rfl) (by show _ = cW K ad (cTake S z s).2 X; rw [cTake, c4_1, cond_false] <;> rfl)
  · skip
    refine g_iload_n (i := 2) C dX1_take_7 rfl rfl ?_
    refine g_callS (av := [.int s]) C dX1_take_8 ln_X1_43 mf_X1_isRegister (kX1_isRegister K (cW K ad S X) s) rfl rfl (Nat.le_of_ble_eq_true rfl) ⟨Nat.le_of_ble_eq_true rfl, Nat.le_of_ble_eq_true rfl⟩ ⟨Nat.zero_le _, Nat.zero_le _⟩ (fun _ => ?_)
    refine g_bz_ne (tgt := 16) C dX1_take_11 (by decide) (fun c11_2 => ?_) (fun c11_2 => ?_)
    · skip
      refine g_aload_n (i := 0) C dX1_take_16 rfl rfl ?_
      refine g_get C dX1_take_17 fl_X1_18 0 rfl rfl ?_
      refine g_iload_n (i := 2) C dX1_take_20 rfl rfl ?_
      refine g_lald C dX1_take_21 3 rfl (isReg_in c11_2) ?_
      refine g_bipush (v := 23) C dX1_take_22 (by decide) ?_
      refine g_callS (av := [.long (S.2.2.2.2.1 s.toNatClampNeg), .int 23]) C dX1_take_24 ln_X1_125 mf_X1_factorOf (kX1_factorOf K (cW K ad S X) (S.2.2.2.2.1 s.toNatClampNeg) 23) rfl rfl (Nat.le_of_ble_eq_true rfl) ⟨Nat.le_of_ble_eq_true rfl, Nat.le_of_ble_eq_true rfl⟩ ⟨Nat.zero_le _, Nat.zero_le _⟩ (fun _ => ?_)
      refine g_lstore_n (i := 3) (lv2 := [(0, .ref (ad 0)), (1, .int z), (2, .int s), (3, .long (facO (S.2.2.2.2.1 s.toNatClampNeg) 23))]) C dX1_take_27 rfl (by decide) rfl ?_
      refine g_lload_n (i := 3) C dX1_take_28 rfl rfl ?_
      refine g_ldc2 (v := (-9223372036854775808)) C dX1_take_29 kc_X1_161 ?_
      refine g_lcmp_ne (tgt := 39) C dX1_take_32 dX1_take_33 (by decide) (fun c32_3 => ?_) (fun c32_3 => ?_)
      · skip
        refine g_aload_n (i := 0) C dX1_take_39 rfl rfl ?_
        refine g_get C dX1_take_40 fl_X1_31 0 rfl rfl ?_
        refine g_iload_n (i := 1) C dX1_take_43 rfl rfl ?_
        refine g_aald (b := (ad (5 + z.toNatClampNeg))) C dX1_take_44 4 rfl (isSm_in c4_1) (soF_in c4_1) ?_
        refine g_eqw (cU_in (z := z.toNatClampNeg)) ?_
        refine g_callVN (av := []) C dX1_take_45 ln_X1_154 mf_X0_clear (5 + z.toNatClampNeg) (cU_S (isSm_z c4_1)) rfl (kX0_clear K ad S X z.toNatClampNeg (fC S z.toNatClampNeg)  (isSm_z c4_1)  ) rfl rfl (Nat.le_of_ble_eq_true rfl) ⟨Nat.le_of_ble_eq_true rfl, Nat.le_of_ble_eq_true rfl⟩ ⟨Nat.zero_le _, Nat.zero_le _⟩ (fun _ => ?_)
        refine g_aload_n (i := 0) C dX1_take_48 rfl rfl ?_
        refine g_get C dX1_take_49 fl_X1_31 0 rfl rfl ?_
        refine g_iload_n (i := 1) C dX1_take_52 rfl rfl ?_
        refine g_aald (b := (ad (5 + z.toNatClampNeg))) C dX1_take_53 4 rfl (isSm_in c4_1) (soF_in c4_1) ?_
        refine g_getN C dX1_take_54 fl_X1_122 (5 + z.toNatClampNeg) (cU_S (isSm_z c4_1)) rfl ?_
        refine g_bipush (v := 6) C dX1_take_57 (by decide) ?_
        refine g_lload_n (i := 3) C dX1_take_59 rfl rfl ?_
        refine g_last (Wd2 := cU K ad S z.toNatClampNeg (vp_updL (cpyG (fun _ => 0) (fC S z.toNatClampNeg) 13) (6 : Int32).toNatClampNeg (facO (S.2.2.2.2.1 s.toNatClampNeg) 23)) X) C dX1_take_60 (15 + z.toNatClampNeg) (cU_A (isSm_z c4_1)) in6 (cU_set (isSm_z c4_1)) ?_
        refine g_aload_n (i := 0) C dX1_take_61 rfl rfl ?_
        refine g_get C dX1_take_62 fl_X1_31 0 rfl rfl ?_
        refine g_iload_n (i := 1) C dX1_take_65 rfl rfl ?_
        refine g_aald (b := (ad (5 + z.toNatClampNeg))) C dX1_take_66 4 rfl (isSm_in c4_1) (soF_in c4_1) ?_
        refine g_callVN (av := []) C dX1_take_67 ln_X1_129 mf_X0_countTerms (5 + z.toNatClampNeg) (cU_S (isSm_z c4_1)) rfl (kX0_countTerms K ad S X z.toNatClampNeg (vp_updL (cpyG (fun _ => 0) (fC S z.toNatClampNeg) 13) (6 : Int32).toNatClampNeg (facO (S.2.2.2.2.1 s.toNatClampNeg) 23))  (isSm_z c4_1)  ) rfl rfl (Nat.le_of_ble_eq_true rfl) ⟨Nat.le_of_ble_eq_true rfl, Nat.le_of_ble_eq_true rfl⟩ ⟨Nat.zero_le _, Nat.zero_le _⟩ (fun _ => ?_)
        exact hR _ _ _ _ () dX1_take_70 (by rw [cTake, c4_1, cond_true, c11_2, cond_true, if_neg c32_3] <;> rfl) (by show _ = cW K ad (cTake S z s).2 X; rw [cTake, c4_1, cond_true, c11_2, cond_true, if_neg c32_3] <;> rfl)
      · skip
        refine g_bipush (v := (-5)) C dX1_take_36 (by decide) ?_
        exact hR _ _ _ _ () dX1_take_38 (by rw [cTake, c4_1, cond_true, c11_2, cond_true, if_pos c32_3] <;> rfl) (by show _ = cW K ad (cTake S z s).2 X; rw [cTake, c4_1, cond_true, c11_2, cond_true, if_pos c32_3] <;> rfl)
    · skip
      refine g_iconst (v := (-1)) C dX1_take_14 (by decide) ?_
      exact hR _ _ _ _ () dX1_take_15 (by rw [cTake, c4_1, cond_true, c11_2, cond_false] <;> rfl) (by show _ = cW K ad (cTake S z s).2 X; rw [cTake, c4_1, cond_true, c11_2, cond_false] <;> rfl)

set_option maxHeartbeats 600000 in
set_option maxRecDepth 100000 in
theorem kX1_near (K : KT) (ad : Nat → Nat) (S : CS) (X : va_W) (s : Int32) (z : Int32) : ∀ lau : Launch, Con lau yX1_near cX1_near 3 (some .int) 6 146 K (cW K ad S X) (fun _ : Unit => cW K ad ((cNear S s z).2) X) [.ref (ad 0), .int s, .int z] (some (.int ((cNear S s z).1))) := by
  refine conI (by decide) (Nat.le_of_ble_eq_true rfl) (fun E C hR => ?_)
  show G E K 0 0 (cW K ad S X) [(0, .ref (ad 0)), (1, .int s), (2, .int z)] 0 []
  refine g_iload_n (i := 1) C dX1_near_0 rfl rfl ?_
  refine g_callS (av := [.int s]) C dX1_near_1 ln_X1_43 mf_X1_isRegister (kX1_isRegister K (cW K ad S X) s) rfl rfl (Nat.le_of_ble_eq_true rfl) ⟨Nat.le_of_ble_eq_true rfl, Nat.le_of_ble_eq_true rfl⟩ ⟨Nat.zero_le _, Nat.zero_le _⟩ (fun _ => ?_)
  refine g_bz_eq (tgt := 14) C dX1_near_4 (by decide) (fun c4_1 => ?_) (fun c4_1 => ?_)
  · skip
    refine g_iconst (v := (-1)) C dX1_near_14 (by decide) ?_
    exact hR _ _ _ _ () dX1_near_15 (by rw [cNear, c4_1, cond_false] <;> rfl) (by show _ = cW K ad (cNear S s z).2 X; rw [cNear, c4_1, cond_false] <;> first | rfl | exact cU_in.symm)
  · skip
    refine g_iload_n (i := 2) C dX1_near_7 rfl rfl ?_
    refine g_callS (av := [.int z]) C dX1_near_8 ln_X1_116 mf_X1_isSum (kX1_isSum K (cW K ad S X) z) rfl rfl (Nat.le_of_ble_eq_true rfl) ⟨Nat.le_of_ble_eq_true rfl, Nat.le_of_ble_eq_true rfl⟩ ⟨Nat.zero_le _, Nat.zero_le _⟩ (fun _ => ?_)
    refine g_bz_ne (tgt := 16) C dX1_near_11 (by decide) (fun c11_2 => ?_) (fun c11_2 => ?_)
    · skip
      refine g_aload_n (i := 0) C dX1_near_16 rfl rfl ?_
      refine g_get C dX1_near_17 fl_X1_31 0 rfl rfl ?_
      refine g_iload_n (i := 2) C dX1_near_20 rfl rfl ?_
      refine g_aald (b := (ad (5 + z.toNatClampNeg))) C dX1_near_21 4 rfl (isSm_in c11_2) (soF_in c11_2) ?_
      refine g_iconst (v := 0) C dX1_near_22 (by decide) ?_
      refine g_eqw (cU_in (z := z.toNatClampNeg)) ?_
      refine g_callVN (av := [.int 0]) C dX1_near_23 ln_X1_134 mf_X0_slotOfTerm (5 + z.toNatClampNeg) (cU_S (isSm_z c11_2)) rfl (kX0_slotOfTerm K ad S X z.toNatClampNeg (fC S z.toNatClampNeg) 0 (isSm_z c11_2)  ) rfl rfl (Nat.le_of_ble_eq_true rfl) ⟨Nat.le_of_ble_eq_true rfl, Nat.le_of_ble_eq_true rfl⟩ ⟨Nat.zero_le _, Nat.zero_le _⟩ (fun _ => ?_)
      refine g_eqw (Eq.symm (cU_in (z := z.toNatClampNeg))) ?_
      refine g_bipush (v := 6) C dX1_near_26 (by decide) ?_
      refine g_icmp_le (tgt := 34) C dX1_near_28 (by decide) (fun c28_3 => ?_) (fun c28_3 => ?_)
      · skip
        refine g_aload_n (i := 0) C dX1_near_34 rfl rfl ?_
        refine g_iload_n (i := 1) C dX1_near_35 rfl rfl ?_
        refine g_aload_n (i := 0) C dX1_near_36 rfl rfl ?_
        refine g_get C dX1_near_37 fl_X1_31 0 rfl rfl ?_
        refine g_iload_n (i := 2) C dX1_near_40 rfl rfl ?_
        refine g_aald (b := (ad (5 + z.toNatClampNeg))) C dX1_near_41 4 rfl (isSm_in c11_2) (soF_in c11_2) ?_
        refine g_getN C dX1_near_42 fl_X1_122 (5 + z.toNatClampNeg) (cW_S (isSm_z c11_2)) rfl ?_
        refine g_bipush (v := 6) C dX1_near_45 (by decide) ?_
        refine g_lald C dX1_near_47 (15 + z.toNatClampNeg) (cW_A (isSm_z c11_2)) in6 ?_
        refine g_iconst (v := 3) C dX1_near_48 (by decide) ?_
        refine g_lshl (v := shlL ((S.2.2.2.2.2 z.toNatClampNeg) (6 : Int32).toNatClampNeg) 3) C dX1_near_49 rfl ?_
        refine g_callV (av := [.int s, .long (shlL ((S.2.2.2.2.2 z.toNatClampNeg) (6 : Int32).toNatClampNeg) 3)]) C dX1_near_50 ln_X1_55 mf_X1_holdValue 0 rfl rfl (kX1_holdValue K ad S X s (shlL ((S.2.2.2.2.2 z.toNatClampNeg) (6 : Int32).toNatClampNeg) 3) c4_1) rfl rfl (Nat.le_of_ble_eq_true rfl) ⟨Nat.le_of_ble_eq_true rfl, Nat.le_of_ble_eq_true rfl⟩ ⟨Nat.zero_le _, Nat.zero_le _⟩ (fun _ => ?_)
        exact hR _ _ _ _ () dX1_near_53 (by rw [cNear, c4_1, cond_true, c11_2, cond_true, if_pos c28_3] <;> rfl) (by show _ = cW K ad (cNear S s z).2 X; rw [cNear, c4_1, cond_true, c11_2, cond_true, if_pos c28_3] <;> first | rfl | exact cU_in.symm)
      · skip
        refine g_bipush (v := (-2)) C dX1_near_31 (by decide) ?_
        exact hR _ _ _ _ () dX1_near_33 (by rw [cNear, c4_1, cond_true, c11_2, cond_true, if_neg c28_3] <;> rfl) (by show _ = cW K ad (cNear S s z).2 X; rw [cNear, c4_1, cond_true, c11_2, cond_true, if_neg c28_3] <;> first | rfl | exact cU_in.symm)
    · skip
      refine g_iconst (v := (-1)) C dX1_near_14 (by decide) ?_
      exact hR _ _ _ _ () dX1_near_15 (by rw [cNear, c4_1, cond_true, c11_2, cond_false] <;> rfl) (by show _ = cW K ad (cNear S s z).2 X; rw [cNear, c4_1, cond_true, c11_2, cond_false] <;> first | rfl | exact cU_in.symm)

set_option maxHeartbeats 600000 in
set_option maxRecDepth 100000 in
theorem kX1_divideOnce (K : KT) (ad : Nat → Nat) (S : CS) (X : va_W) (r q : Nat → Int64) (y : Nat) (ds rs : Int32) (hy : y < 10) (h8 : y ≠ 8) (h9 : y ≠ 9) (hds : vp_in ds 13) (hrs : vp_in rs 13) : ∀ lau : Launch, Con lau yX1_divideOnce cX1_divideOnce 7 (some .boolean) 6 142 K (c2 K ad S r q X) (fun _ : Unit => c2 K ad S (dOnce (fC S y) ds rs r q).2.1 (dOnce (fC S y) ds rs r q).2.2 X) [.ref (ad 0), .ref (ad (5 + y)), .int ds, .int rs] (some (.int (bz (dOnce (fC S y) ds rs r q).1))) := by
  refine conZ (by decide) (Nat.le_of_ble_eq_true rfl) (fun E C hR => ?_)
  show G E K 0 0 (c2 K ad S r q X) [(0, .ref (ad 0)), (1, .ref (ad (5 + y))), (2, .int ds), (3, .int rs)] 0 []
  refine g_iload_n (i := 3) C dX1_divideOnce_0 rfl rfl ?_
  refine g_iload_n (i := 2) C dX1_divideOnce_1 rfl rfl ?_
  refine g_isub C dX1_divideOnce_2 ?_
  refine g_istore (lv2 := [(0, .ref (ad 0)), (1, .ref (ad (5 + y))), (2, .int ds), (3, .int rs), (4, .int (rs - ds))]) C dX1_divideOnce_3 (by decide) rfl ?_
  refine g_aload_n (i := 0) C dX1_divideOnce_5 rfl rfl ?_
  refine g_get C dX1_divideOnce_6 fl_X1_40 0 rfl rfl ?_
  refine g_getN C dX1_divideOnce_9 fl_X1_122 (5 + 9) (c2_S (by decide)) rfl ?_
  refine g_iload_n (i := 3) C dX1_divideOnce_12 rfl rfl ?_
  refine g_lald C dX1_divideOnce_13 24 c2_A9 hrs ?_
  refine g_aload_n (i := 1) C dX1_divideOnce_14 rfl rfl ?_
  refine g_getN C dX1_divideOnce_15 fl_X1_122 (5 + y) (c2_S hy) rfl ?_
  refine g_iload_n (i := 2) C dX1_divideOnce_18 rfl rfl ?_
  refine g_lald C dX1_divideOnce_19 (15 + y) (c2_An hy h8 h9) hds ?_
  refine g_callS (av := [.long (q rs.toNatClampNeg), .long ((fC S y) ds.toNatClampNeg)]) C dX1_divideOnce_20 ln_X1_198 mf_X1_factorQuotient (kX1_factorQuotient K (c2 K ad S r q X) (q rs.toNatClampNeg) ((fC S y) ds.toNatClampNeg)) rfl rfl (Nat.le_of_ble_eq_true rfl) ⟨Nat.le_of_ble_eq_true rfl, Nat.le_of_ble_eq_true rfl⟩ ⟨Nat.zero_le _, Nat.zero_le _⟩ (fun _ => ?_)
  refine g_lstore (lv2 := [(0, .ref (ad 0)), (1, .ref (ad (5 + y))), (2, .int ds), (3, .int rs), (4, .int (rs - ds)), (5, .long (facQ (q rs.toNatClampNeg) ((fC S y) ds.toNatClampNeg)))]) C dX1_divideOnce_23 (by decide) rfl ?_
  refine g_aload_n (i := 0) C dX1_divideOnce_25 rfl rfl ?_
  refine g_get C dX1_divideOnce_26 fl_X1_36 0 rfl rfl ?_
  refine g_iload C dX1_divideOnce_29 rfl ?_
  refine g_lload C dX1_divideOnce_31 rfl ?_
  refine g_callVN (av := [.int (rs - ds), .long (facQ (q rs.toNatClampNeg) ((fC S y) ds.toNatClampNeg))]) C dX1_divideOnce_33 ln_X1_201 mf_X0_put (5 + 8) (c2_S (by decide)) rfl (kD_put K ad S X r q (rs - ds) (facQ (q rs.toNatClampNeg) ((fC S y) ds.toNatClampNeg))) rfl rfl (Nat.le_of_ble_eq_true rfl) ⟨Nat.le_of_ble_eq_true rfl, Nat.le_of_ble_eq_true rfl⟩ ⟨Nat.zero_le _, Nat.zero_le _⟩ (fun _ => ?_)
  refine g_bz_eq (tgt := 59) C dX1_divideOnce_36 (by decide) (fun c36_1 => ?_) (fun c36_1 => ?_)
  · skip
    refine g_iconst (v := 0) C dX1_divideOnce_59 (by decide) ?_
    exact hR _ _ _ _ () dX1_divideOnce_60 (by rw [dOnce, c36_1, cond_false] <;> rfl) (by show _ = c2 K ad S (dOnce (fC S y) ds rs r q).2.1 (dOnce (fC S y) ds rs r q).2.2 X; rw [dOnce, c36_1, cond_false] <;> rfl)
  · skip
    refine g_aload_n (i := 0) C dX1_divideOnce_39 rfl rfl ?_
    refine g_get C dX1_divideOnce_40 fl_X1_40 0 rfl rfl ?_
    refine g_iload C dX1_divideOnce_43 rfl ?_
    refine g_lload C dX1_divideOnce_45 rfl ?_
    refine g_lneg C dX1_divideOnce_47 ?_
    refine g_aload_n (i := 1) C dX1_divideOnce_48 rfl rfl ?_
    refine g_callVN (av := [.int (rs - ds), .long (-(facQ (q rs.toNatClampNeg) ((fC S y) ds.toNatClampNeg))), .ref (ad (5 + y))]) C dX1_divideOnce_49 ln_X1_205 mf_X0_putProducts (5 + 9) (c2_S (by decide)) rfl (kD_pp K ad S X ((putF r (rs - ds) (facQ (q rs.toNatClampNeg) ((fC S y) ds.toNatClampNeg))).2) q (rs - ds) (-(facQ (q rs.toNatClampNeg) ((fC S y) ds.toNatClampNeg))) y hy h8 h9) rfl rfl (Nat.le_of_ble_eq_true rfl) ⟨Nat.le_of_ble_eq_true rfl, Nat.le_of_ble_eq_true rfl⟩ ⟨Nat.zero_le _, Nat.zero_le _⟩ (fun _ => ?_)
    refine g_bz_eq (tgt := 59) C dX1_divideOnce_52 (by decide) (fun c52_2 => ?_) (fun c52_2 => ?_)
    · skip
      refine g_iconst (v := 0) C dX1_divideOnce_59 (by decide) ?_
      exact hR _ _ _ _ () dX1_divideOnce_60 (by rw [dOnce, c36_1, cond_true, c52_2] <;> rfl) (by show _ = c2 K ad S (dOnce (fC S y) ds rs r q).2.1 (dOnce (fC S y) ds rs r q).2.2 X; rw [dOnce, c36_1, cond_true, c52_2] <;> rfl)
    · skip
      refine g_iconst (v := 1) C dX1_divideOnce_55 (by decide) ?_
      refine g_goto (tgt := 60) C dX1_divideOnce_56 (by decide) ?_
      exact hR _ _ _ _ () dX1_divideOnce_60 (by rw [dOnce, c36_1, cond_true, c52_2] <;> rfl) (by show _ = c2 K ad S (dOnce (fC S y) ds rs r q).2.1 (dOnce (fC S y) ds rs r q).2.2 X; rw [dOnce, c36_1, cond_true, c52_2] <;> rfl)

set_option maxHeartbeats 600000 in
set_option maxRecDepth 100000 in
theorem kX1_divide (K : KT) (ad : Nat → Nat) (S : CS) (X : va_W) (q : Int32) (r : Int32) (x : Int32) (y : Int32) (n : Int32) : ∀ lau : Launch, Con lau yX1_divide cX1_divide 10 (some .int) 7 168 K (cW K ad S X) (fun _ : Unit => cW K ad ((cDiv S q r x y n).2) X) [.ref (ad 0), .int q, .int r, .int x, .int y, .int n] (some (.int ((cDiv S q r x y n).1))) := by
  refine conI (by decide) (Nat.le_of_ble_eq_true rfl) (fun E C hR => ?_)
  show G E K 0 0 (cW K ad S X) [(0, .ref (ad 0)), (1, .int q), (2, .int r), (3, .int x), (4, .int y), (5, .int n)] 0 []
  refine g_iload_n (i := 1) C dX1_divide_0 rfl rfl ?_
  refine g_callS (av := [.int q]) C dX1_divide_1 ln_X1_116 mf_X1_isSum (kX1_isSum K (cW K ad S X) q) rfl rfl (Nat.le_of_ble_eq_true rfl) ⟨Nat.le_of_ble_eq_true rfl, Nat.le_of_ble_eq_true rfl⟩ ⟨Nat.zero_le _, Nat.zero_le _⟩ (fun _ => ?_)
  refine g_bz_eq (tgt := 47) C dX1_divide_4 (by decide) (fun c4_1 => ?_) (fun c4_1 => ?_)
  · skip
    refine g_iconst (v := (-1)) C dX1_divide_47 (by decide) ?_
    exact hR _ _ _ _ () dX1_divide_48 (by rw [cDiv, c4_1, cond_false] <;> rfl) (by show _ = cW K ad (cDiv S q r x y n).2 X; rw [cDiv, c4_1, cond_false] <;> rfl)
  · skip
    refine g_iload_n (i := 2) C dX1_divide_7 rfl rfl ?_
    refine g_callS (av := [.int r]) C dX1_divide_8 ln_X1_116 mf_X1_isSum (kX1_isSum K (cW K ad S X) r) rfl rfl (Nat.le_of_ble_eq_true rfl) ⟨Nat.le_of_ble_eq_true rfl, Nat.le_of_ble_eq_true rfl⟩ ⟨Nat.zero_le _, Nat.zero_le _⟩ (fun _ => ?_)
    refine g_bz_eq (tgt := 47) C dX1_divide_11 (by decide) (fun c11_2 => ?_) (fun c11_2 => ?_)
    · skip
      refine g_iconst (v := (-1)) C dX1_divide_47 (by decide) ?_
      exact hR _ _ _ _ () dX1_divide_48 (by rw [cDiv, c4_1, cond_true, c11_2, cond_false] <;> rfl) (by show _ = cW K ad (cDiv S q r x y n).2 X; rw [cDiv, c4_1, cond_true, c11_2, cond_false] <;> rfl)
    · skip
      refine g_iload_n (i := 1) C dX1_divide_14 rfl rfl ?_
      refine g_iload_n (i := 2) C dX1_divide_15 rfl rfl ?_
      refine g_icmp_eq (tgt := 47) C dX1_divide_16 (by decide) (fun c16_3 => ?_) (fun c16_3 => ?_)
      · skip
        refine g_iconst (v := (-1)) C dX1_divide_47 (by decide) ?_
        exact hR _ _ _ _ () dX1_divide_48 (by rw [cDiv, c4_1, cond_true, c11_2, cond_true, if_pos c16_3] <;> rfl) (by show _ = cW K ad (cDiv S q r x y n).2 X; rw [cDiv, c4_1, cond_true, c11_2, cond_true, if_pos c16_3] <;> rfl)
      · skip
        refine g_iload_n (i := 3) C dX1_divide_19 rfl rfl ?_
        refine g_callS (av := [.int x]) C dX1_divide_20 ln_X1_116 mf_X1_isSum (kX1_isSum K (cW K ad S X) x) rfl rfl (Nat.le_of_ble_eq_true rfl) ⟨Nat.le_of_ble_eq_true rfl, Nat.le_of_ble_eq_true rfl⟩ ⟨Nat.zero_le _, Nat.zero_le _⟩ (fun _ => ?_)
        refine g_bz_eq (tgt := 47) C dX1_divide_23 (by decide) (fun c23_4 => ?_) (fun c23_4 => ?_)
        · skip
          refine g_iconst (v := (-1)) C dX1_divide_47 (by decide) ?_
          exact hR _ _ _ _ () dX1_divide_48 (by rw [cDiv, c4_1, cond_true, c11_2, cond_true, if_neg c16_3, c23_4, cond_false] <;> rfl) (by show _ = cW K ad (cDiv S q r x y n).2 X; rw [cDiv, c4_1, cond_true, c11_2, cond_true, if_neg c16_3, c23_4, cond_false] <;> rfl)
        · skip
          refine g_iload C dX1_divide_26 rfl ?_
          refine g_callS (av := [.int y]) C dX1_divide_28 ln_X1_116 mf_X1_isSum (kX1_isSum K (cW K ad S X) y) rfl rfl (Nat.le_of_ble_eq_true rfl) ⟨Nat.le_of_ble_eq_true rfl, Nat.le_of_ble_eq_true rfl⟩ ⟨Nat.zero_le _, Nat.zero_le _⟩ (fun _ => ?_)
          refine g_bz_eq (tgt := 47) C dX1_divide_31 (by decide) (fun c31_5 => ?_) (fun c31_5 => ?_)
          · skip
            refine g_iconst (v := (-1)) C dX1_divide_47 (by decide) ?_
            exact hR _ _ _ _ () dX1_divide_48 (by rw [cDiv, c4_1, cond_true, c11_2, cond_true, if_neg c16_3, c23_4, cond_true, c31_5, cond_false] <;> rfl) (by show _ = cW K ad (cDiv S q r x y n).2 X; rw [cDiv, c4_1, cond_true, c11_2, cond_true, if_neg c16_3, c23_4, cond_true, c31_5, cond_false] <;> rfl)
          · skip
            refine g_iload C dX1_divide_34 rfl ?_
            refine g_iconst (v := 1) C dX1_divide_36 (by decide) ?_
            refine g_icmp_lt (tgt := 47) C dX1_divide_37 (by decide) (fun c37_6 => ?_) (fun c37_6 => ?_)
            · skip
              refine g_iconst (v := (-1)) C dX1_divide_47 (by decide) ?_
              exact hR _ _ _ _ () dX1_divide_48 (by rw [cDiv, c4_1, cond_true, c11_2, cond_true, if_neg c16_3, c23_4, cond_true, c31_5, cond_true, if_pos c37_6] <;> rfl) (by show _ = cW K ad (cDiv S q r x y n).2 X; rw [cDiv, c4_1, cond_true, c11_2, cond_true, if_neg c16_3, c23_4, cond_true, c31_5, cond_true, if_pos c37_6] <;> rfl)
            · skip
              refine g_iload C dX1_divide_40 rfl ?_
              refine g_bipush (v := 20) C dX1_divide_42 (by decide) ?_
              refine g_icmp_le (tgt := 49) C dX1_divide_44 (by decide) (fun c44_7 => ?_) (fun c44_7 => ?_)
              · skip
                refine g_aload_n (i := 0) C dX1_divide_49 rfl rfl ?_
                refine g_get C dX1_divide_50 fl_X1_31 0 rfl rfl ?_
                refine g_iload C dX1_divide_53 rfl ?_
                refine g_aald (b := (ad (5 + y.toNatClampNeg))) C dX1_divide_55 4 rfl (isSm_in c31_5) (soF_in c31_5) ?_
                refine g_astore (lv2 := [(0, .ref (ad 0)), (1, .int q), (2, .int r), (3, .int x), (4, .int y), (5, .int n), (6, .ref (ad (5 + y.toNatClampNeg)))]) C dX1_divide_56 (by decide) rfl ?_
                refine g_aload C dX1_divide_58 rfl ?_
                refine g_iconst (v := 0) C dX1_divide_60 (by decide) ?_
                refine g_eqw (cU_in (z := y.toNatClampNeg)) ?_
                refine g_callVN (av := [.int 0]) C dX1_divide_61 ln_X1_134 mf_X0_slotOfTerm (5 + y.toNatClampNeg) (cU_S (isSm_z c31_5)) rfl (kX0_slotOfTerm K ad S X y.toNatClampNeg (fC S y.toNatClampNeg) 0 (isSm_z c31_5)  ) rfl rfl (Nat.le_of_ble_eq_true rfl) ⟨Nat.le_of_ble_eq_true rfl, Nat.le_of_ble_eq_true rfl⟩ ⟨Nat.zero_le _, Nat.zero_le _⟩ (fun _ => ?_)
                refine g_eqw (Eq.symm (cU_in (z := y.toNatClampNeg))) ?_
                refine g_istore (lv2 := [(0, .ref (ad 0)), (1, .int q), (2, .int r), (3, .int x), (4, .int y), (5, .int n), (6, .ref (ad (5 + y.toNatClampNeg))), (7, .int (sltR (fC S y.toNatClampNeg) 0))]) C dX1_divide_64 (by decide) rfl ?_
                refine g_iload C dX1_divide_66 rfl ?_
                refine g_if_lt (tgt := 85) C dX1_divide_68 (by decide) (fun c68_8 => ?_) (fun c68_8 => ?_)
                · skip
                  refine g_bipush (v := (-2)) C dX1_divide_85 (by decide) ?_
                  exact hR _ _ _ _ () dX1_divide_87 (by rw [cDiv, c4_1, cond_true, c11_2, cond_true, if_neg c16_3, c23_4, cond_true, c31_5, cond_true, if_neg c37_6, if_pos c44_7, if_pos c68_8] <;> rfl) (by show _ = cW K ad (cDiv S q r x y n).2 X; rw [cDiv, c4_1, cond_true, c11_2, cond_true, if_neg c16_3, c23_4, cond_true, c31_5, cond_true, if_neg c37_6, if_pos c44_7, if_pos c68_8] <;> rfl)
                · skip
                  refine g_aload C dX1_divide_71 rfl ?_
                  refine g_getN C dX1_divide_73 fl_X1_122 (5 + y.toNatClampNeg) (cW_S (isSm_z c31_5)) rfl ?_
                  refine g_iload C dX1_divide_76 rfl ?_
                  refine g_lald C dX1_divide_78 (15 + y.toNatClampNeg) (cW_A (isSm_z c31_5)) (sltR_in c68_8) ?_
                  refine g_callS (av := [.long ((S.2.2.2.2.2 y.toNatClampNeg) (sltR (fC S y.toNatClampNeg) 0).toNatClampNeg)]) C dX1_divide_79 ln_X1_150 mf_X1_isPowerOfTwo (kX1_isPowerOfTwo K (cW K ad S X) ((S.2.2.2.2.2 y.toNatClampNeg) (sltR (fC S y.toNatClampNeg) 0).toNatClampNeg)) rfl rfl (Nat.le_of_ble_eq_true rfl) ⟨Nat.le_of_ble_eq_true rfl, Nat.le_of_ble_eq_true rfl⟩ ⟨Nat.zero_le _, Nat.zero_le _⟩ (fun _ => ?_)
                  refine g_bz_ne (tgt := 88) C dX1_divide_82 (by decide) (fun c82_9 => ?_) (fun c82_9 => ?_)
                  · skip
                    refine g_aload_n (i := 0) C dX1_divide_88 rfl rfl ?_
                    refine g_get C dX1_divide_89 fl_X1_36 0 rfl rfl ?_
                    refine g_eqw (cU_in (z := 8)) ?_
                    refine g_callVN (av := []) C dX1_divide_92 ln_X1_154 mf_X0_clear (5 + 8) (cU_S (by decide)) rfl (kX0_clear K ad S X 8 (fC S 8)  (by decide)  ) rfl rfl (Nat.le_of_ble_eq_true rfl) ⟨Nat.le_of_ble_eq_true rfl, Nat.le_of_ble_eq_true rfl⟩ ⟨Nat.zero_le _, Nat.zero_le _⟩ (fun _ => ?_)
                    refine g_aload_n (i := 0) C dX1_divide_95 rfl rfl ?_
                    refine g_get C dX1_divide_96 fl_X1_40 0 rfl rfl ?_
                    refine g_aload_n (i := 0) C dX1_divide_99 rfl rfl ?_
                    refine g_get C dX1_divide_100 fl_X1_31 0 rfl rfl ?_
                    refine g_iload_n (i := 3) C dX1_divide_103 rfl rfl ?_
                    refine g_aald (b := (ad (5 + x.toNatClampNeg))) C dX1_divide_104 4 rfl (isSm_in c23_4) (soF_in c23_4) ?_
                    refine g_eqw (cU_in (z := 9)) ?_
                    refine g_callVN (av := [.ref (ad (5 + x.toNatClampNeg))]) C dX1_divide_105 ln_X1_146 mf_X0_become (5 + 9) (cU_S (by decide)) rfl (kX0_become K ad (sF S (uF (fC S) 8 (cpyG (fun _ => 0) (fC S 8) 13))) X 9 (fC (sF S (uF (fC S) 8 (cpyG (fun _ => 0) (fC S 8) 13))) 9) x.toNatClampNeg (by decide) (isSm_z c23_4) (isSm_n9 c23_4) ) rfl rfl (Nat.le_of_ble_eq_true rfl) ⟨Nat.le_of_ble_eq_true rfl, Nat.le_of_ble_eq_true rfl⟩ ⟨Nat.zero_le _, Nat.zero_le _⟩ (fun _ => ?_)
                    refine g_eqw (c2_en (isSm_n8 c23_4)) ?_
                    refine g_iconst (v := 0) C dX1_divide_108 (by decide) ?_
                    refine g_istore (lv2 := [(0, .ref (ad 0)), (1, .int q), (2, .int r), (3, .int x), (4, .int y), (5, .int n), (6, .ref (ad (5 + y.toNatClampNeg))), (7, .int (sltR (fC S y.toNatClampNeg) 0)), (8, .int 0)]) C dX1_divide_109 (by decide) rfl ?_
                    obtain ⟨m, hm, em⟩ := rnd_k c37_6 c44_7
                    have lo : ∀ (fuel : Nat) (i : Nat) (r0 q0 : Nat → Int64), i ≤ m → m < i + fuel → dvL (gC S y) (sltR (gC S y) 0) (m - i) i r0 q0 = dvS S x y m → G E K 0 0 (c2 K ad S r0 q0 X) [(0, .ref (ad 0)), (1, .int q), (2, .int r), (3, .int x), (4, .int y), (5, .int n), (6, .ref (ad (5 + y.toNatClampNeg))), (7, .int (sltR (fC S y.toNatClampNeg) 0)), (8, .int (nI i))] 111 [] := by
                      intro fuel
                      induction fuel with
                      | zero =>
                        intro i r0 q0 hlo0 hlo1 hlo2
                        omega
                      | succ fuel ihlo =>
                        intro i r0 q0 hlo0 hlo1 hlo2
                        refine g_iload C dX1_divide_111 rfl ?_
                        refine g_iload C dX1_divide_113 rfl ?_
                        refine g_icmp_ge (tgt := 168) C dX1_divide_115 (by decide) (fun c115_10 => ?_) (fun c115_10 => ?_)
                        · skip
                          rw [em] at c115_10
                          have ei : i = m := by have := nle c115_10 (by omega) (by omega); omega
                          refine g_aload_n (i := 0) C dX1_divide_168 rfl rfl ?_
                          refine g_get C dX1_divide_169 fl_X1_31 0 rfl rfl ?_
                          refine g_iload_n (i := 1) C dX1_divide_172 rfl rfl ?_
                          refine g_aald (b := (ad (5 + q.toNatClampNeg))) C dX1_divide_173 4 rfl (isSm_in c4_1) (soF_in c4_1) ?_
                          refine g_aload_n (i := 0) C dX1_divide_174 rfl rfl ?_
                          refine g_get C dX1_divide_175 fl_X1_36 0 rfl rfl ?_
                          refine g_eqw (cU_in (z := q.toNatClampNeg)) ?_
                          refine g_callVN (av := [.ref (ad 13)]) C dX1_divide_178 ln_X1_146 mf_X0_become (5 + q.toNatClampNeg) (cU_S (isSm_z c4_1)) rfl (kX0_become K ad (sF S (uF (uF (fC S) 8 r0) 9 q0)) X q.toNatClampNeg (fC (sF S (uF (uF (fC S) 8 r0) 9 q0)) q.toNatClampNeg) 8 (isSm_z c4_1) (by decide) (Ne.symm (isSm_n8 c4_1)) ) rfl rfl (Nat.le_of_ble_eq_true rfl) ⟨Nat.le_of_ble_eq_true rfl, Nat.le_of_ble_eq_true rfl⟩ ⟨Nat.zero_le _, Nat.zero_le _⟩ (fun _ => ?_)
                          refine g_aload_n (i := 0) C dX1_divide_181 rfl rfl ?_
                          refine g_get C dX1_divide_182 fl_X1_31 0 rfl rfl ?_
                          refine g_iload_n (i := 2) C dX1_divide_185 rfl rfl ?_
                          refine g_aald (b := (ad (5 + r.toNatClampNeg))) C dX1_divide_186 4 rfl (isSm_in c11_2) (soF_in c11_2) ?_
                          refine g_aload_n (i := 0) C dX1_divide_187 rfl rfl ?_
                          refine g_get C dX1_divide_188 fl_X1_40 0 rfl rfl ?_
                          refine g_eqw (cU_in (z := r.toNatClampNeg)) ?_
                          refine g_callVN (av := [.ref (ad 14)]) C dX1_divide_191 ln_X1_146 mf_X0_become (5 + r.toNatClampNeg) (cU_S (isSm_z c11_2)) rfl (kX0_become K ad (sF (sF S (uF (uF (fC S) 8 r0) 9 q0)) (uF (fC (sF S (uF (uF (fC S) 8 r0) 9 q0))) q.toNatClampNeg (cpyG (fC (sF S (uF (uF (fC S) 8 r0) 9 q0)) 8) (fC (sF S (uF (uF (fC S) 8 r0) 9 q0)) q.toNatClampNeg) 13))) X r.toNatClampNeg (fC (sF (sF S (uF (uF (fC S) 8 r0) 9 q0)) (uF (fC (sF S (uF (uF (fC S) 8 r0) 9 q0))) q.toNatClampNeg (cpyG (fC (sF S (uF (uF (fC S) 8 r0) 9 q0)) 8) (fC (sF S (uF (uF (fC S) 8 r0) 9 q0)) q.toNatClampNeg) 13))) r.toNatClampNeg) 9 (isSm_z c11_2) (by decide) (Ne.symm (isSm_n9 c11_2)) ) rfl rfl (Nat.le_of_ble_eq_true rfl) ⟨Nat.le_of_ble_eq_true rfl, Nat.le_of_ble_eq_true rfl⟩ ⟨Nat.zero_le _, Nat.zero_le _⟩ (fun _ => ?_)
                          refine g_iload C dX1_divide_194 rfl ?_
                          exact hR _ _ _ _ () dX1_divide_196 (by subst ei; rw [cDiv, c4_1, cond_true, c11_2, cond_true, if_neg c16_3, c23_4, cond_true, c31_5, cond_true, if_neg c37_6, if_pos c44_7, if_neg c68_8, c82_9, cond_true, em, nI_clamp (by omega), dvE, ← hlo2, dvL_0] <;> rfl) (by show _ = cW K ad (cDiv S q r x y n).2 X; subst ei; rw [cDiv, c4_1, cond_true, c11_2, cond_true, if_neg c16_3, c23_4, cond_true, c31_5, cond_true, if_neg c37_6, if_pos c44_7, if_neg c68_8, c82_9, cond_true, em, nI_clamp (by omega), dvE, ← hlo2, dvL_0] <;> rfl)
                        · skip
                          rw [em] at c115_10
                          have ei : i < m := nlt c115_10 (by omega) (by omega)
                          refine g_aload_n (i := 0) C dX1_divide_118 rfl rfl ?_
                          refine g_get C dX1_divide_119 fl_X1_40 0 rfl rfl ?_
                          refine g_iconst (v := 0) C dX1_divide_122 (by decide) ?_
                          refine g_callVN (av := [.int 0]) C dX1_divide_123 ln_X1_134 mf_X0_slotOfTerm (5 + 9) (c2_S (by decide)) rfl (kD_slt K ad S X r0 q0 0) rfl rfl (Nat.le_of_ble_eq_true rfl) ⟨Nat.le_of_ble_eq_true rfl, Nat.le_of_ble_eq_true rfl⟩ ⟨Nat.zero_le _, Nat.zero_le _⟩ (fun _ => ?_)
                          refine g_istore (lv2 := [(0, .ref (ad 0)), (1, .int q), (2, .int r), (3, .int x), (4, .int y), (5, .int n), (6, .ref (ad (5 + y.toNatClampNeg))), (7, .int (sltR (fC S y.toNatClampNeg) 0)), (8, .int (nI i)), (9, .int (sltR q0 0))]) C dX1_divide_126 (by decide) rfl ?_
                          refine g_iload C dX1_divide_128 rfl ?_
                          refine g_if_lt (tgt := 168) C dX1_divide_130 (by decide) (fun c130_11 => ?_) (fun c130_11 => ?_)
                          · skip
                            refine g_aload_n (i := 0) C dX1_divide_168 rfl rfl ?_
                            refine g_get C dX1_divide_169 fl_X1_31 0 rfl rfl ?_
                            refine g_iload_n (i := 1) C dX1_divide_172 rfl rfl ?_
                            refine g_aald (b := (ad (5 + q.toNatClampNeg))) C dX1_divide_173 4 rfl (isSm_in c4_1) (soF_in c4_1) ?_
                            refine g_aload_n (i := 0) C dX1_divide_174 rfl rfl ?_
                            refine g_get C dX1_divide_175 fl_X1_36 0 rfl rfl ?_
                            refine g_eqw (cU_in (z := q.toNatClampNeg)) ?_
                            refine g_callVN (av := [.ref (ad 13)]) C dX1_divide_178 ln_X1_146 mf_X0_become (5 + q.toNatClampNeg) (cU_S (isSm_z c4_1)) rfl (kX0_become K ad (sF S (uF (uF (fC S) 8 r0) 9 q0)) X q.toNatClampNeg (fC (sF S (uF (uF (fC S) 8 r0) 9 q0)) q.toNatClampNeg) 8 (isSm_z c4_1) (by decide) (Ne.symm (isSm_n8 c4_1)) ) rfl rfl (Nat.le_of_ble_eq_true rfl) ⟨Nat.le_of_ble_eq_true rfl, Nat.le_of_ble_eq_true rfl⟩ ⟨Nat.zero_le _, Nat.zero_le _⟩ (fun _ => ?_)
                            refine g_aload_n (i := 0) C dX1_divide_181 rfl rfl ?_
                            refine g_get C dX1_divide_182 fl_X1_31 0 rfl rfl ?_
                            refine g_iload_n (i := 2) C dX1_divide_185 rfl rfl ?_
                            refine g_aald (b := (ad (5 + r.toNatClampNeg))) C dX1_divide_186 4 rfl (isSm_in c11_2) (soF_in c11_2) ?_
                            refine g_aload_n (i := 0) C dX1_divide_187 rfl rfl ?_
                            refine g_get C dX1_divide_188 fl_X1_40 0 rfl rfl ?_
                            refine g_eqw (cU_in (z := r.toNatClampNeg)) ?_
                            refine g_callVN (av := [.ref (ad 14)]) C dX1_divide_191 ln_X1_146 mf_X0_become (5 + r.toNatClampNeg) (cU_S (isSm_z c11_2)) rfl (kX0_become K ad (sF (sF S (uF (uF (fC S) 8 r0) 9 q0)) (uF (fC (sF S (uF (uF (fC S) 8 r0) 9 q0))) q.toNatClampNeg (cpyG (fC (sF S (uF (uF (fC S) 8 r0) 9 q0)) 8) (fC (sF S (uF (uF (fC S) 8 r0) 9 q0)) q.toNatClampNeg) 13))) X r.toNatClampNeg (fC (sF (sF S (uF (uF (fC S) 8 r0) 9 q0)) (uF (fC (sF S (uF (uF (fC S) 8 r0) 9 q0))) q.toNatClampNeg (cpyG (fC (sF S (uF (uF (fC S) 8 r0) 9 q0)) 8) (fC (sF S (uF (uF (fC S) 8 r0) 9 q0)) q.toNatClampNeg) 13))) r.toNatClampNeg) 9 (isSm_z c11_2) (by decide) (Ne.symm (isSm_n9 c11_2)) ) rfl rfl (Nat.le_of_ble_eq_true rfl) ⟨Nat.le_of_ble_eq_true rfl, Nat.le_of_ble_eq_true rfl⟩ ⟨Nat.zero_le _, Nat.zero_le _⟩ (fun _ => ?_)
                            refine g_iload C dX1_divide_194 rfl ?_
                            exact hR _ _ _ _ () dX1_divide_196 (by rw [cDiv, c4_1, cond_true, c11_2, cond_true, if_neg c16_3, c23_4, cond_true, c31_5, cond_true, if_neg c37_6, if_pos c44_7, if_neg c68_8, c82_9, cond_true, em, nI_clamp (by omega), dvE, ← hlo2, dvL_s ei, if_pos c130_11] <;> rfl) (by show _ = cW K ad (cDiv S q r x y n).2 X; rw [cDiv, c4_1, cond_true, c11_2, cond_true, if_neg c16_3, c23_4, cond_true, c31_5, cond_true, if_neg c37_6, if_pos c44_7, if_neg c68_8, c82_9, cond_true, em, nI_clamp (by omega), dvE, ← hlo2, dvL_s ei, if_pos c130_11] <;> rfl)
                          · skip
                            refine g_iload C dX1_divide_133 rfl ?_
                            refine g_iload C dX1_divide_135 rfl ?_
                            refine g_isub C dX1_divide_137 ?_
                            refine g_bipush (v := (-6)) C dX1_divide_138 (by decide) ?_
                            refine g_icmp_ge (tgt := 146) C dX1_divide_140 (by decide) (fun c140_12 => ?_) (fun c140_12 => ?_)
                            · skip
                              refine g_aload_n (i := 0) C dX1_divide_146 rfl rfl ?_
                              refine g_aload C dX1_divide_147 rfl ?_
                              refine g_iload C dX1_divide_149 rfl ?_
                              refine g_iload C dX1_divide_151 rfl ?_
                              refine g_callV (av := [.ref (ad (5 + y.toNatClampNeg)), .int (sltR (fC S y.toNatClampNeg) 0), .int (sltR q0 0)]) C dX1_divide_153 ln_X1_157 mf_X1_divideOnce 0 rfl rfl (kX1_divideOnce K ad S X r0 q0 y.toNatClampNeg (sltR (fC S y.toNatClampNeg) 0) (sltR q0 0) (isSm_z c31_5) (isSm_n8 c31_5) (isSm_n9 c31_5) (sltR_in c68_8) (sltR_in c130_11)) rfl rfl (Nat.le_of_ble_eq_true rfl) ⟨Nat.le_of_ble_eq_true rfl, Nat.le_of_ble_eq_true rfl⟩ ⟨Nat.zero_le _, Nat.zero_le _⟩ (fun _ => ?_)
                              refine g_bz_ne (tgt := 162) C dX1_divide_156 (by decide) (fun c156_13 => ?_) (fun c156_13 => ?_)
                              · skip
                                refine g_iinc (v := nI (i + 1)) (lv2 := [(0, .ref (ad 0)), (1, .int q), (2, .int r), (3, .int x), (4, .int y), (5, .int n), (6, .ref (ad (5 + y.toNatClampNeg))), (7, .int (sltR (fC S y.toNatClampNeg) 0)), (8, .int (nI (i + 1))), (9, .int (sltR q0 0))]) C dX1_divide_162 rfl (nI_inc i) (by decide) rfl ?_
                                refine g_goto (tgt := 111) C dX1_divide_165 (by decide) ?_
                                exact g_lvs [0, 1, 2, 3, 4, 5, 6, 7, 8] rfl (ihlo (i + 1) _ _ (by omega) (by omega) (by rw [← hlo2, dvL_s ei, if_neg c130_11, if_pos c140_12, c156_13, cond_true] <;> rfl))
                              · skip
                                refine g_bipush (v := (-5)) C dX1_divide_159 (by decide) ?_
                                exact hR _ _ _ _ () dX1_divide_161 (by rw [cDiv, c4_1, cond_true, c11_2, cond_true, if_neg c16_3, c23_4, cond_true, c31_5, cond_true, if_neg c37_6, if_pos c44_7, if_neg c68_8, c82_9, cond_true, em, nI_clamp (by omega), dvE, ← hlo2, dvL_s ei, if_neg c130_11, if_pos c140_12, c156_13, cond_false] <;> rfl) (by show _ = cW K ad (cDiv S q r x y n).2 X; rw [cDiv, c4_1, cond_true, c11_2, cond_true, if_neg c16_3, c23_4, cond_true, c31_5, cond_true, if_neg c37_6, if_pos c44_7, if_neg c68_8, c82_9, cond_true, em, nI_clamp (by omega), dvE, ← hlo2, dvL_s ei, if_neg c130_11, if_pos c140_12, c156_13, cond_false] <;> rfl)
                            · skip
                              refine g_goto (tgt := 168) C dX1_divide_143 (by decide) ?_
                              refine g_aload_n (i := 0) C dX1_divide_168 rfl rfl ?_
                              refine g_get C dX1_divide_169 fl_X1_31 0 rfl rfl ?_
                              refine g_iload_n (i := 1) C dX1_divide_172 rfl rfl ?_
                              refine g_aald (b := (ad (5 + q.toNatClampNeg))) C dX1_divide_173 4 rfl (isSm_in c4_1) (soF_in c4_1) ?_
                              refine g_aload_n (i := 0) C dX1_divide_174 rfl rfl ?_
                              refine g_get C dX1_divide_175 fl_X1_36 0 rfl rfl ?_
                              refine g_eqw (cU_in (z := q.toNatClampNeg)) ?_
                              refine g_callVN (av := [.ref (ad 13)]) C dX1_divide_178 ln_X1_146 mf_X0_become (5 + q.toNatClampNeg) (cU_S (isSm_z c4_1)) rfl (kX0_become K ad (sF S (uF (uF (fC S) 8 r0) 9 q0)) X q.toNatClampNeg (fC (sF S (uF (uF (fC S) 8 r0) 9 q0)) q.toNatClampNeg) 8 (isSm_z c4_1) (by decide) (Ne.symm (isSm_n8 c4_1)) ) rfl rfl (Nat.le_of_ble_eq_true rfl) ⟨Nat.le_of_ble_eq_true rfl, Nat.le_of_ble_eq_true rfl⟩ ⟨Nat.zero_le _, Nat.zero_le _⟩ (fun _ => ?_)
                              refine g_aload_n (i := 0) C dX1_divide_181 rfl rfl ?_
                              refine g_get C dX1_divide_182 fl_X1_31 0 rfl rfl ?_
                              refine g_iload_n (i := 2) C dX1_divide_185 rfl rfl ?_
                              refine g_aald (b := (ad (5 + r.toNatClampNeg))) C dX1_divide_186 4 rfl (isSm_in c11_2) (soF_in c11_2) ?_
                              refine g_aload_n (i := 0) C dX1_divide_187 rfl rfl ?_
                              refine g_get C dX1_divide_188 fl_X1_40 0 rfl rfl ?_
                              refine g_eqw (cU_in (z := r.toNatClampNeg)) ?_
                              refine g_callVN (av := [.ref (ad 14)]) C dX1_divide_191 ln_X1_146 mf_X0_become (5 + r.toNatClampNeg) (cU_S (isSm_z c11_2)) rfl (kX0_become K ad (sF (sF S (uF (uF (fC S) 8 r0) 9 q0)) (uF (fC (sF S (uF (uF (fC S) 8 r0) 9 q0))) q.toNatClampNeg (cpyG (fC (sF S (uF (uF (fC S) 8 r0) 9 q0)) 8) (fC (sF S (uF (uF (fC S) 8 r0) 9 q0)) q.toNatClampNeg) 13))) X r.toNatClampNeg (fC (sF (sF S (uF (uF (fC S) 8 r0) 9 q0)) (uF (fC (sF S (uF (uF (fC S) 8 r0) 9 q0))) q.toNatClampNeg (cpyG (fC (sF S (uF (uF (fC S) 8 r0) 9 q0)) 8) (fC (sF S (uF (uF (fC S) 8 r0) 9 q0)) q.toNatClampNeg) 13))) r.toNatClampNeg) 9 (isSm_z c11_2) (by decide) (Ne.symm (isSm_n9 c11_2)) ) rfl rfl (Nat.le_of_ble_eq_true rfl) ⟨Nat.le_of_ble_eq_true rfl, Nat.le_of_ble_eq_true rfl⟩ ⟨Nat.zero_le _, Nat.zero_le _⟩ (fun _ => ?_)
                              refine g_iload C dX1_divide_194 rfl ?_
                              exact hR _ _ _ _ () dX1_divide_196 (by rw [cDiv, c4_1, cond_true, c11_2, cond_true, if_neg c16_3, c23_4, cond_true, c31_5, cond_true, if_neg c37_6, if_pos c44_7, if_neg c68_8, c82_9, cond_true, em, nI_clamp (by omega), dvE, ← hlo2, dvL_s ei, if_neg c130_11, if_neg c140_12] <;> rfl) (by show _ = cW K ad (cDiv S q r x y n).2 X; rw [cDiv, c4_1, cond_true, c11_2, cond_true, if_neg c16_3, c23_4, cond_true, c31_5, cond_true, if_neg c37_6, if_pos c44_7, if_neg c68_8, c82_9, cond_true, em, nI_clamp (by omega), dvE, ← hlo2, dvL_s ei, if_neg c130_11, if_neg c140_12] <;> rfl)
                    exact g_lvs [0, 1, 2, 3, 4, 5, 6, 7, 8] rfl (lo (m + 1) 0 _ _ (by omega) (by omega) rfl)
                  · skip
                    refine g_bipush (v := (-2)) C dX1_divide_85 (by decide) ?_
                    exact hR _ _ _ _ () dX1_divide_87 (by rw [cDiv, c4_1, cond_true, c11_2, cond_true, if_neg c16_3, c23_4, cond_true, c31_5, cond_true, if_neg c37_6, if_pos c44_7, if_neg c68_8, c82_9, cond_false] <;> rfl) (by show _ = cW K ad (cDiv S q r x y n).2 X; rw [cDiv, c4_1, cond_true, c11_2, cond_true, if_neg c16_3, c23_4, cond_true, c31_5, cond_true, if_neg c37_6, if_pos c44_7, if_neg c68_8, c82_9, cond_false] <;> rfl)
              · skip
                refine g_iconst (v := (-1)) C dX1_divide_47 (by decide) ?_
                exact hR _ _ _ _ () dX1_divide_48 (by rw [cDiv, c4_1, cond_true, c11_2, cond_true, if_neg c16_3, c23_4, cond_true, c31_5, cond_true, if_neg c37_6, if_neg c44_7] <;> rfl) (by show _ = cW K ad (cDiv S q r x y n).2 X; rw [cDiv, c4_1, cond_true, c11_2, cond_true, if_neg c16_3, c23_4, cond_true, c31_5, cond_true, if_neg c37_6, if_neg c44_7] <;> rfl)
end
section
abbrev MSt : Type := (Nat → Int32) × (Nat → Int32) × Int32 × Int32 × (Nat → Int64) × (Nat → Int32) × Int32 × Int32 × Int64 × Int32
def mW (K : KT) (bd : Nat → Nat) (M : MSt) (X : va_W) : va_W := oB (bd 0) 2 [.ref (bd 1), .ref (bd 2), .int M.2.2.1, .int M.2.2.2.1, .ref (bd 3), .ref (bd 4), .int M.2.2.2.2.2.2.1, .int M.2.2.2.2.2.2.2.1, .long M.2.2.2.2.2.2.2.2.1, .int M.2.2.2.2.2.2.2.2.2] :: aI K (bd 1) 12 M.1 :: aI K (bd 2) 12 M.2.1 :: aJ K (bd 3) 130 M.2.2.2.2.1 :: aI K (bd 4) 130 M.2.2.2.2.2.1 :: X
abbrev dyM (M : MSt) (s : Int32) : Int32 := M.1 s.toNatClampNeg
abbrev sgM (M : MSt) (s : Int32) : Int32 := M.2.1 s.toNatClampNeg
abbrev fdM (M : MSt) : Int32 := M.2.2.2.2.2.2.1
abbrev fsM (M : MSt) : Int32 := M.2.2.2.2.2.2.2.1
def wO (M : MSt) (i : Nat) : Int64 := wM (M.2.1 i) (M.1 i).toNatClampNeg
abbrev HD (M : MSt) : Prop := ∀ i : Nat, i < 12 → ∃ k : Nat, k ≤ 24 ∧ M.1 i = nI k
theorem HD.r {M : MSt} (h : HD M) {s : Int32} (hs : isReg s = true) : ∃ k : Nat, k ≤ 24 ∧ dyM M s = nI k := h _ (vp_lt (isReg_in hs))
theorem isReg_nI {i : Nat} (h : i < 12) : isReg (nI i) = true := by
  unfold isReg
  rw [decide_eq_false (nI_pos (by omega)), decide_eq_false (show ¬ (12 : Int32) ≤ nI i from nI_ge (b := 12) h (by decide))]; rfl
end
section
def keep (M : MSt) (s : Int32) (b : Bool) : Int32 × MSt := bif b then (fdM M, (upd M.1 s.toNatClampNeg (fdM M), upd M.2.1 s.toNatClampNeg (fsM M), M.2.2.1, M.2.2.2.1, M.2.2.2.2.1, M.2.2.2.2.2.1, M.2.2.2.2.2.2.1, M.2.2.2.2.2.2.2.1, M.2.2.2.2.2.2.2.2.1, M.2.2.2.2.2.2.2.2.2)) else (-3, M)
abbrev mFd (M : MSt) (n x : Int32) : MSt := (M.1, M.2.1, M.2.2.1, M.2.2.2.1, M.2.2.2.2.1, M.2.2.2.2.2.1, n, x, M.2.2.2.2.2.2.2.2.1, M.2.2.2.2.2.2.2.2.2)
def fnS (hl : Bool) (lo : Int64) (hh : Bool) (hi : Int64) : Nat → Nat → Int32 → Bool × Nat × Int32
  | 0, n, x => (false, n, x)
  | f + 1, n, x => bif hl then (if wM x n ≤ lo then (if nI n = 24 then (false, n, x) else fnS hl lo hh hi f (n + 1) (x ||| (1 <<< (nI n &&& 31)))) else bif hh then (if wM x n < hi then (true, n, x) else if nI n = 24 then (false, n, x) else fnS hl lo hh hi f (n + 1) x) else (true, n, x)) else bif hh then (if wM x n < hi then (true, n, x) else if nI n = 24 then (false, n, x) else fnS hl lo hh hi f (n + 1) x) else (true, n, x)
def mFin (M : MSt) (hl : Bool) (lo : Int64) (hh : Bool) (hi : Int64) : Bool × MSt := ((fnS hl lo hh hi 25 0 0).1, mFd M (nI (fnS hl lo hh hi 25 0 0).2.1) (fnS hl lo hh hi 25 0 0).2.2)
def rdM : Nat → Int64 → Int64 × Nat
  | 0, a => (a, 0)
  | k + 1, a => if a - a / 2 * 2 = 0 then rdM k (a / 2) else (a, k + 1)
def hsM (v : Int64) : Nat → Nat → Int32 → Bool × Nat × Int32
  | 0, n, x => (false, n, x)
  | f + 1, n, x => if wM x n = v then (true, n, x) else if nI n = 24 then (false, n, x) else if v ≤ wM x n then hsM v f (n + 1) x else hsM v f (n + 1) (x ||| (1 <<< (nI n &&& 31)))
def hasV (M : MSt) (v : Int64) : Bool × MSt := ((hsM v 25 0 0).1, mFd M (nI (hsM v 25 0 0).2.1) (hsM v 25 0 0).2.2)
def hasR (M : MSt) (u : Int64) (k : Nat) : Bool × MSt := if 23 < nI k then (false, M) else if shlL 25 (nI k) < u then (false, M) else if -(shlL 25 (nI k)) ≤ u then hasV M (u * shrL 16777216 (nI k)) else (false, M)
def mHas (M : MSt) (a : Int64) (k : Nat) : Bool × MSt := hasR M (rdM k a).1 (rdM k a).2
def mRow (M : MSt) (s n x : Int32) : Int32 × MSt := bif isReg s then bif inL n.toInt64 0 24 then (if ushrI x n = 0 then (n, (upd M.1 s.toNatClampNeg n, upd M.2.1 s.toNatClampNeg x, M.2.2.1, M.2.2.2.1, M.2.2.2.2.1, M.2.2.2.2.2.1, M.2.2.2.2.2.2.1, M.2.2.2.2.2.2.2.1, M.2.2.2.2.2.2.2.2.1, M.2.2.2.2.2.2.2.2.2)) else (-1, M)) else (-1, M) else (-1, M)
def mKH (s : Int32) (r : Bool × MSt) : Int32 × MSt := keep r.2 s r.1
def mNum (M : MSt) (s a k : Int32) : Int32 × MSt := bif isReg s then bif inL a.toInt64 (-1000000000) 1000000000 then bif inL k.toInt64 0 20 then mKH s (mHas M a.toInt64 k.toNatClampNeg) else (-1, M) else (-1, M) else (-1, M)
def mAt (M : MSt) (s i : Int32) : Int32 := bif isReg s then (if -1 ≤ i then (if 0 ≤ i then (if dyM M s ≤ i then -4 else bz (tb (sgM M s) i)) else dyM M s) else -1) else -1
def mVal (M : MSt) (s w : Int32) : Int32 := bif isReg s then bif inL w.toInt64 0 1 then (if w = 0 then (rdM 24 (wO M s.toNatClampNeg)).1.toInt32 else nI (rdM 24 (wO M s.toNatClampNeg)).2) else -1000000000 else -1000000000
def mAgn (M : MSt) (s t : Int32) : Int32 := bif isReg s then bif isReg t then cmpL (wO M s.toNatClampNeg) (wO M t.toNatClampNeg) else -9 else -9
def mWork (M : MSt) (s how t u : Int32) : Int32 × MSt := bif isReg s then bif inL how.toInt64 0 3 then bif isReg t then (if 3 ≤ how then mKH s (mHas M (-(wO M t.toNatClampNeg)) 24) else bif isReg u then (if how = 0 then mKH s (mHas M (wO M t.toNatClampNeg + wO M u.toNatClampNeg) 24) else if how = 1 then mKH s (mHas M (wO M t.toNatClampNeg - wO M u.toNatClampNeg) 24) else mKH s (mHas M (wO M t.toNatClampNeg * wO M u.toNatClampNeg) 48)) else (-1, M)) else (-1, M) else (-1, M) else (-1, M)
def mPair (M : MSt) (w : Int32) : Int32 := if w = 0 then M.2.2.1 else if w = 1 then M.2.2.2.1 else -1
theorem fnS_s {hl : Bool} {lo : Int64} {hh : Bool} {hi : Int64} {n : Nat} {x : Int32} (h : n < 25) : fnS hl lo hh hi (25 - n) n x = bif hl then (if wM x n ≤ lo then (if nI n = 24 then (false, n, x) else fnS hl lo hh hi (25 - (n + 1)) (n + 1) (x ||| (1 <<< (nI n &&& 31)))) else bif hh then (if wM x n < hi then (true, n, x) else if nI n = 24 then (false, n, x) else fnS hl lo hh hi (25 - (n + 1)) (n + 1) x) else (true, n, x)) else bif hh then (if wM x n < hi then (true, n, x) else if nI n = 24 then (false, n, x) else fnS hl lo hh hi (25 - (n + 1)) (n + 1) x) else (true, n, x) := by
  rw [show 25 - n = (25 - (n + 1)) + 1 from by omega]
  rfl
theorem hsM_s {v : Int64} {n : Nat} {x : Int32} (h : n < 25) : hsM v (25 - n) n x = if wM x n = v then (true, n, x) else if nI n = 24 then (false, n, x) else if v ≤ wM x n then hsM v (25 - (n + 1)) (n + 1) x else hsM v (25 - (n + 1)) (n + 1) (x ||| (1 <<< (nI n &&& 31))) := by
  rw [show 25 - n = (25 - (n + 1)) + 1 from by omega]
  rfl
theorem n24 {n : Nat} (h : ¬ nI n = 24) (hn : n ≤ 24) : n < 24 := by
  rcases Nat.lt_or_ge n 24 with q | q
  · exact q
  · exact absurd (by rw [show n = 24 from by omega]; rfl) h
theorem nz {k : Nat} (h : ¬ nI k ≤ 0) : ∃ j, k = j + 1 := by
  cases k with
  | zero => exact absurd (by decide) h
  | succ j => exact ⟨j, rfl⟩
theorem nz0 {k : Nat} (h : nI k ≤ 0) (hk : k < 2 ^ 31) : k = 0 := by
  cases k with
  | zero => rfl
  | succ j => exact absurd h (nI_nle (by omega) hk)
theorem decS (n : Nat) : nI (n + 1) + Int32.ofInt (-1) = nI n := pk_m1 n
theorem how3 {h : Int32} (h1 : inL h.toInt64 0 3 = true) (h2 : ¬ 3 ≤ h) : h = 0 ∨ (¬ h = 0 ∧ h = 1) ∨ (¬ h = 0 ∧ ¬ h = 1 ∧ h = 2) := by
  rw [inL_gen h 0 3 (a := 0) (b := 3) rfl rfl] at h1
  simp only [Bool.and_eq_true, Bool.not_eq_true', decide_eq_false_iff_not] at h1
  obtain ⟨j, hj, e⟩ := nI_of2 (M := 3) (n := 3) rfl h1.1 (Int32.not_lt.mp h1.2)
  have hj3 : j < 3 := by
    rcases Nat.lt_or_ge j 3 with q | q
    · exact q
    · exact absurd (by rw [e, show j = 3 from by omega]; decide) h2
  match j, hj3 with
  | 0, _ => exact Or.inl e
  | 1, _ => exact Or.inr (Or.inl ⟨by rw [e]; decide, e⟩)
  | 2, _ => exact Or.inr (Or.inr ⟨by rw [e]; decide, by rw [e]; decide, e⟩)
theorem how3b {h : Int32} (h1 : inL h.toInt64 0 3 = true) (h2 : 3 ≤ h) : h = 3 := by
  rw [inL_gen h 0 3 (a := 0) (b := 3) rfl rfl] at h1
  simp only [Bool.and_eq_true, Bool.not_eq_true', decide_eq_false_iff_not] at h1
  obtain ⟨j, hj, e⟩ := nI_of2 (M := 3) (n := 3) rfl h1.1 (Int32.not_lt.mp h1.2)
  rw [e] at h2 ⊢
  have : 3 ≤ j := nle (a := 3) h2 (by decide) (by omega)
  rw [show j = 3 from by omega]; rfl
theorem in20 {k : Int32} (h : inL k.toInt64 0 20 = true) : ∃ j : Nat, j ≤ 20 ∧ k = nI j := by
  rw [inL_gen k 0 20 (a := 0) (b := 20) rfl rfl] at h
  simp only [Bool.and_eq_true, Bool.not_eq_true', decide_eq_false_iff_not] at h
  exact nI_of2 (M := 20) (n := 20) rfl h.1 (Int32.not_lt.mp h.2)
theorem kX2_worthI (K : KT) (Wd : va_W) (sg n : Int32) (h : ¬ n < 0) : ∀ lau : Launch, Con lau yX2_worth cX2_worth 9 (some .long) 0 0 K Wd (fun _ : Unit => Wd) [.int sg, .int n] (some (.long (wM sg n.toNatClampNeg))) := by
  obtain ⟨j, hj, rfl⟩ := nI_of h
  rw [nI_clamp hj]
  exact kX2_worth K Wd sg j hj
theorem knn {x : Int32} (h : ∃ k : Nat, k ≤ 24 ∧ x = nI k) : ¬ x < 0 := by
  obtain ⟨k, hk, rfl⟩ := h
  exact nI_pos (by omega)
set_option maxHeartbeats 600000 in
set_option maxRecDepth 100000 in
theorem kX2_worthOf (K : KT) (bd : Nat → Nat) (M : MSt) (X : va_W) (s : Int32) (hs : isReg s = true) (hd : ∃ k : Nat, k ≤ 24 ∧ M.1 s.toNatClampNeg = nI k) : ∀ lau : Launch, Con lau yX2_worthOf cX2_worthOf 2 (some .long) 1 28 K (mW K bd M X) (fun _ : Unit => mW K bd M X) [.ref (bd 0), .int s] (some (.long (wO M s.toNatClampNeg))) := by
  refine conL (by decide) (Nat.le_of_ble_eq_true rfl) (fun E C hR => ?_)
  show G E K 0 0 (mW K bd M X) [(0, .ref (bd 0)), (1, .int s)] 0 []
  refine g_aload_n (i := 0) C dX2_worthOf_0 rfl rfl ?_
  refine g_get C dX2_worthOf_1 fl_X2_13 0 rfl rfl ?_
  refine g_iload_n (i := 1) C dX2_worthOf_4 rfl rfl ?_
  refine g_iald C dX2_worthOf_5 2 rfl (isReg_in hs) ?_
  refine g_aload_n (i := 0) C dX2_worthOf_6 rfl rfl ?_
  refine g_get C dX2_worthOf_7 fl_X2_7 0 rfl rfl ?_
  refine g_iload_n (i := 1) C dX2_worthOf_10 rfl rfl ?_
  refine g_iald C dX2_worthOf_11 1 rfl (isReg_in hs) ?_
  refine g_callS (av := [.int (M.2.1 s.toNatClampNeg), .int (M.1 s.toNatClampNeg)]) C dX2_worthOf_12 ln_X2_40 mf_X2_worth (kX2_worthI K (mW K bd M X) (M.2.1 s.toNatClampNeg) (M.1 s.toNatClampNeg) (knn hd)) rfl rfl (Nat.le_of_ble_eq_true rfl) ⟨Nat.le_of_ble_eq_true rfl, Nat.le_of_ble_eq_true rfl⟩ ⟨Nat.zero_le _, Nat.zero_le _⟩ (fun _ => ?_)
  exact hR _ _ _ _ () dX2_worthOf_15 (rfl) (rfl)

set_option maxHeartbeats 600000 in
set_option maxRecDepth 100000 in
theorem kX2_finds (K : KT) (bd : Nat → Nat) (M : MSt) (X : va_W) (hl : Bool) (lo : Int64) (hh : Bool) (hi : Int64) : ∀ lau : Launch, Con lau yX2_finds cX2_finds 9 (some .boolean) 1 28 K (mW K bd M X) (fun _ : Unit => mW K bd ((mFin M hl lo hh hi).2) X) [.ref (bd 0), .int (bz hl), .long lo, .int (bz hh), .long hi] (some (.int (bz (mFin M hl lo hh hi).1))) := by
  refine conZ (by decide) (Nat.le_of_ble_eq_true rfl) (fun E C hR => ?_)
  show G E K 0 0 (mW K bd M X) [(0, .ref (bd 0)), (1, .int (bz hl)), (2, .long lo), (4, .int (bz hh)), (5, .long hi)] 0 []
  refine g_aload_n (i := 0) C dX2_finds_0 rfl rfl ?_
  refine g_iconst (v := 0) C dX2_finds_1 (by decide) ?_
  refine g_put (Wd2 := mW K bd (M.1, M.2.1, M.2.2.1, M.2.2.2.1, M.2.2.2.2.1, M.2.2.2.2.2.1, 0, M.2.2.2.2.2.2.2.1, M.2.2.2.2.2.2.2.2.1, M.2.2.2.2.2.2.2.2.2) X) C dX2_finds_2 fp_X2_44 0 rfl rfl rfl (Nat.le_of_ble_eq_true rfl) rfl ?_
  refine g_aload_n (i := 0) C dX2_finds_5 rfl rfl ?_
  refine g_iconst (v := 0) C dX2_finds_6 (by decide) ?_
  refine g_put (Wd2 := mW K bd (M.1, M.2.1, M.2.2.1, M.2.2.2.1, M.2.2.2.2.1, M.2.2.2.2.2.1, 0, 0, M.2.2.2.2.2.2.2.2.1, M.2.2.2.2.2.2.2.2.2) X) C dX2_finds_7 fp_X2_47 0 rfl rfl rfl (Nat.le_of_ble_eq_true rfl) rfl ?_
  refine g_lconst (v := 0) C dX2_finds_10 (by decide) ?_
  refine g_lstore (lv2 := [(0, .ref (bd 0)), (1, .int (bz hl)), (2, .long lo), (4, .int (bz hh)), (5, .long hi), (7, .long 0)]) C dX2_finds_11 (by decide) rfl ?_
  have lo : ∀ (fuel : Nat) (n : Nat) (x : Int32) (a : Int64), n ≤ 24 → 24 < n + fuel → a = wM x n → fnS hl lo hh hi (25 - n) n x = fnS hl lo hh hi 25 0 0 → G E K 0 0 (mW K bd (M.1, M.2.1, M.2.2.1, M.2.2.2.1, M.2.2.2.2.1, M.2.2.2.2.2.1, nI n, x, M.2.2.2.2.2.2.2.2.1, M.2.2.2.2.2.2.2.2.2) X) [(0, .ref (bd 0)), (1, .int (bz hl)), (2, .long lo), (4, .int (bz hh)), (5, .long hi), (7, .long a)] 13 [] := by
    intro fuel
    induction fuel with
    | zero =>
      intro n x a hlo0 hlo1 hlo2 hlo3
      omega
    | succ fuel ihlo =>
      intro n x a hlo0 hlo1 hlo2 hlo3
      subst hlo2
      refine g_iload_n (i := 1) C dX2_finds_13 rfl rfl ?_
      refine g_bz_eq (tgt := 24) C dX2_finds_14 (by decide) (fun c14_1 => ?_) (fun c14_1 => ?_)
      · skip
        refine g_iload C dX2_finds_24 rfl ?_
        refine g_bz_eq (tgt := 100) C dX2_finds_26 (by decide) (fun c26_2 => ?_) (fun c26_2 => ?_)
        · skip
          refine g_iconst (v := 1) C dX2_finds_100 (by decide) ?_
          exact hR _ _ _ _ () dX2_finds_101 (by rw [mFin, ← hlo3, fnS_s (n := n) (by omega), c14_1, cond_false, c26_2, cond_false] <;> rfl) (by show _ = mW K bd (mFin M hl lo hh hi).2 X; rw [mFin, ← hlo3, fnS_s (n := n) (by omega), c14_1, cond_false, c26_2, cond_false] <;> rfl)
        · skip
          refine g_lload C dX2_finds_29 rfl ?_
          refine g_lload C dX2_finds_31 rfl ?_
          refine g_lcmp_lt (tgt := 100) C dX2_finds_33 dX2_finds_34 (by decide) (fun c33_3 => ?_) (fun c33_3 => ?_)
          · skip
            refine g_iconst (v := 1) C dX2_finds_100 (by decide) ?_
            exact hR _ _ _ _ () dX2_finds_101 (by rw [mFin, ← hlo3, fnS_s (n := n) (by omega), c14_1, cond_false, c26_2, cond_true, if_pos c33_3] <;> rfl) (by show _ = mW K bd (mFin M hl lo hh hi).2 X; rw [mFin, ← hlo3, fnS_s (n := n) (by omega), c14_1, cond_false, c26_2, cond_true, if_pos c33_3] <;> rfl)
          · skip
            refine g_aload_n (i := 0) C dX2_finds_37 rfl rfl ?_
            refine g_get C dX2_finds_38 fl_X2_44 0 rfl rfl ?_
            refine g_bipush (v := 24) C dX2_finds_41 (by decide) ?_
            refine g_icmp_ne (tgt := 48) C dX2_finds_43 (by decide) (fun c43_4 => ?_) (fun c43_4 => ?_)
            · skip
              refine g_iload_n (i := 1) C dX2_finds_48 rfl rfl ?_
              refine g_bz_eq (tgt := 74) C dX2_finds_49 (by decide) (fun _ => ?_) (fun q => absurd (c14_1.symm.trans q) (by decide))
              refine g_aload_n (i := 0) C dX2_finds_74 rfl rfl ?_
              refine g_dup C dX2_finds_75 rfl ?_
              refine g_get C dX2_finds_76 fl_X2_44 0 rfl rfl ?_
              refine g_iconst (v := 1) C dX2_finds_79 (by decide) ?_
              refine g_iadd C dX2_finds_80 ?_
              refine g_eqi (show nI n + 1 = nI (n + 1) from nI_1 n) ?_
              refine g_put (Wd2 := mW K bd (M.1, M.2.1, M.2.2.1, M.2.2.2.1, M.2.2.2.2.1, M.2.2.2.2.2.1, nI (n + 1), x, M.2.2.2.2.2.2.2.2.1, M.2.2.2.2.2.2.2.2.2) X) C dX2_finds_81 fp_X2_44 0 rfl rfl rfl (Nat.le_of_ble_eq_true rfl) rfl ?_
              refine g_aload_n (i := 0) C dX2_finds_84 rfl rfl ?_
              refine g_get C dX2_finds_85 fl_X2_47 0 rfl rfl ?_
              refine g_aload_n (i := 0) C dX2_finds_88 rfl rfl ?_
              refine g_get C dX2_finds_89 fl_X2_44 0 rfl rfl ?_
              refine g_callS (av := [.int x, .int (nI (n + 1))]) C dX2_finds_92 ln_X2_40 mf_X2_worth (kX2_worth K (mW K bd (M.1, M.2.1, M.2.2.1, M.2.2.2.1, M.2.2.2.2.1, M.2.2.2.2.2.1, nI (n + 1), x, M.2.2.2.2.2.2.2.2.1, M.2.2.2.2.2.2.2.2.2) X) x (n + 1) (by omega)) rfl rfl (Nat.le_of_ble_eq_true rfl) ⟨Nat.le_of_ble_eq_true rfl, Nat.le_of_ble_eq_true rfl⟩ ⟨Nat.zero_le _, Nat.zero_le _⟩ (fun _ => ?_)
              refine g_lstore (lv2 := [(0, .ref (bd 0)), (1, .int (bz hl)), (2, .long lo), (4, .int (bz hh)), (5, .long hi), (7, .long (wM x (n + 1)))]) C dX2_finds_95 (by decide) rfl ?_
              refine g_goto (tgt := 13) C dX2_finds_97 (by decide) ?_
              exact g_lvs [0, 1, 2, 3, 4, 5] rfl (ihlo (n + 1) _ _ (by have := n24 c43_4 (by omega); omega) (by omega) rfl (by rw [← hlo3, fnS_s (n := n) (by omega), c14_1, cond_false, c26_2, cond_true, if_neg c33_3, if_neg c43_4]))
            · skip
              refine g_iconst (v := 0) C dX2_finds_46 (by decide) ?_
              exact hR _ _ _ _ () dX2_finds_47 (by rw [mFin, ← hlo3, fnS_s (n := n) (by omega), c14_1, cond_false, c26_2, cond_true, if_neg c33_3, if_pos c43_4] <;> rfl) (by show _ = mW K bd (mFin M hl lo hh hi).2 X; rw [mFin, ← hlo3, fnS_s (n := n) (by omega), c14_1, cond_false, c26_2, cond_true, if_neg c33_3, if_pos c43_4] <;> rfl)
      · skip
        refine g_lload C dX2_finds_17 rfl ?_
        refine g_lload_n (i := 2) C dX2_finds_19 rfl rfl ?_
        refine g_lcmp_le (tgt := 37) C dX2_finds_20 dX2_finds_21 (by decide) (fun c20_5 => ?_) (fun c20_5 => ?_)
        · skip
          refine g_aload_n (i := 0) C dX2_finds_37 rfl rfl ?_
          refine g_get C dX2_finds_38 fl_X2_44 0 rfl rfl ?_
          refine g_bipush (v := 24) C dX2_finds_41 (by decide) ?_
          refine g_icmp_ne (tgt := 48) C dX2_finds_43 (by decide) (fun c43_6 => ?_) (fun c43_6 => ?_)
          · skip
            refine g_iload_n (i := 1) C dX2_finds_48 rfl rfl ?_
            refine g_bz_eq (tgt := 74) C dX2_finds_49 (by decide) (fun q => absurd (c14_1.symm.trans q) (by decide)) (fun _ => ?_)
            refine g_lload C dX2_finds_52 rfl ?_
            refine g_lload_n (i := 2) C dX2_finds_54 rfl rfl ?_
            refine g_lcmp_gt (tgt := 74) C dX2_finds_55 dX2_finds_56 (by decide) (fun c55_7 => absurd c55_7 (Int64.not_lt.mpr c20_5)) (fun c55_7 => ?_)
            refine g_aload_n (i := 0) C dX2_finds_59 rfl rfl ?_
            refine g_dup C dX2_finds_60 rfl ?_
            refine g_get C dX2_finds_61 fl_X2_47 0 rfl rfl ?_
            refine g_iconst (v := 1) C dX2_finds_64 (by decide) ?_
            refine g_aload_n (i := 0) C dX2_finds_65 rfl rfl ?_
            refine g_get C dX2_finds_66 fl_X2_44 0 rfl rfl ?_
            refine g_ishl C dX2_finds_69 ?_
            refine g_ior C dX2_finds_70 ?_
            refine g_put (Wd2 := mW K bd (M.1, M.2.1, M.2.2.1, M.2.2.2.1, M.2.2.2.2.1, M.2.2.2.2.2.1, nI n, x ||| (1 <<< ((nI n) &&& 31)), M.2.2.2.2.2.2.2.2.1, M.2.2.2.2.2.2.2.2.2) X) C dX2_finds_71 fp_X2_47 0 rfl rfl rfl (Nat.le_of_ble_eq_true rfl) rfl ?_
            refine g_aload_n (i := 0) C dX2_finds_74 rfl rfl ?_
            refine g_dup C dX2_finds_75 rfl ?_
            refine g_get C dX2_finds_76 fl_X2_44 0 rfl rfl ?_
            refine g_iconst (v := 1) C dX2_finds_79 (by decide) ?_
            refine g_iadd C dX2_finds_80 ?_
            refine g_eqi (show nI n + 1 = nI (n + 1) from nI_1 n) ?_
            refine g_put (Wd2 := mW K bd (M.1, M.2.1, M.2.2.1, M.2.2.2.1, M.2.2.2.2.1, M.2.2.2.2.2.1, nI (n + 1), x ||| (1 <<< ((nI n) &&& 31)), M.2.2.2.2.2.2.2.2.1, M.2.2.2.2.2.2.2.2.2) X) C dX2_finds_81 fp_X2_44 0 rfl rfl rfl (Nat.le_of_ble_eq_true rfl) rfl ?_
            refine g_aload_n (i := 0) C dX2_finds_84 rfl rfl ?_
            refine g_get C dX2_finds_85 fl_X2_47 0 rfl rfl ?_
            refine g_aload_n (i := 0) C dX2_finds_88 rfl rfl ?_
            refine g_get C dX2_finds_89 fl_X2_44 0 rfl rfl ?_
            refine g_callS (av := [.int (x ||| (1 <<< ((nI n) &&& 31))), .int (nI (n + 1))]) C dX2_finds_92 ln_X2_40 mf_X2_worth (kX2_worth K (mW K bd (M.1, M.2.1, M.2.2.1, M.2.2.2.1, M.2.2.2.2.1, M.2.2.2.2.2.1, nI (n + 1), x ||| (1 <<< ((nI n) &&& 31)), M.2.2.2.2.2.2.2.2.1, M.2.2.2.2.2.2.2.2.2) X) (x ||| (1 <<< ((nI n) &&& 31))) (n + 1) (by omega)) rfl rfl (Nat.le_of_ble_eq_true rfl) ⟨Nat.le_of_ble_eq_true rfl, Nat.le_of_ble_eq_true rfl⟩ ⟨Nat.zero_le _, Nat.zero_le _⟩ (fun _ => ?_)
            refine g_lstore (lv2 := [(0, .ref (bd 0)), (1, .int (bz hl)), (2, .long lo), (4, .int (bz hh)), (5, .long hi), (7, .long (wM (x ||| (1 <<< ((nI n) &&& 31))) (n + 1)))]) C dX2_finds_95 (by decide) rfl ?_
            refine g_goto (tgt := 13) C dX2_finds_97 (by decide) ?_
            exact g_lvs [0, 1, 2, 3, 4, 5] rfl (ihlo (n + 1) _ _ (by have := n24 c43_6 (by omega); omega) (by omega) rfl (by rw [← hlo3, fnS_s (n := n) (by omega), c14_1, cond_true, if_pos c20_5, if_neg c43_6]))
          · skip
            refine g_iconst (v := 0) C dX2_finds_46 (by decide) ?_
            exact hR _ _ _ _ () dX2_finds_47 (by rw [mFin, ← hlo3, fnS_s (n := n) (by omega), c14_1, cond_true, if_pos c20_5, if_pos c43_6] <;> rfl) (by show _ = mW K bd (mFin M hl lo hh hi).2 X; rw [mFin, ← hlo3, fnS_s (n := n) (by omega), c14_1, cond_true, if_pos c20_5, if_pos c43_6] <;> rfl)
        · skip
          refine g_iload C dX2_finds_24 rfl ?_
          refine g_bz_eq (tgt := 100) C dX2_finds_26 (by decide) (fun c26_8 => ?_) (fun c26_8 => ?_)
          · skip
            refine g_iconst (v := 1) C dX2_finds_100 (by decide) ?_
            exact hR _ _ _ _ () dX2_finds_101 (by rw [mFin, ← hlo3, fnS_s (n := n) (by omega), c14_1, cond_true, if_neg c20_5, c26_8, cond_false] <;> rfl) (by show _ = mW K bd (mFin M hl lo hh hi).2 X; rw [mFin, ← hlo3, fnS_s (n := n) (by omega), c14_1, cond_true, if_neg c20_5, c26_8, cond_false] <;> rfl)
          · skip
            refine g_lload C dX2_finds_29 rfl ?_
            refine g_lload C dX2_finds_31 rfl ?_
            refine g_lcmp_lt (tgt := 100) C dX2_finds_33 dX2_finds_34 (by decide) (fun c33_9 => ?_) (fun c33_9 => ?_)
            · skip
              refine g_iconst (v := 1) C dX2_finds_100 (by decide) ?_
              exact hR _ _ _ _ () dX2_finds_101 (by rw [mFin, ← hlo3, fnS_s (n := n) (by omega), c14_1, cond_true, if_neg c20_5, c26_8, cond_true, if_pos c33_9] <;> rfl) (by show _ = mW K bd (mFin M hl lo hh hi).2 X; rw [mFin, ← hlo3, fnS_s (n := n) (by omega), c14_1, cond_true, if_neg c20_5, c26_8, cond_true, if_pos c33_9] <;> rfl)
            · skip
              refine g_aload_n (i := 0) C dX2_finds_37 rfl rfl ?_
              refine g_get C dX2_finds_38 fl_X2_44 0 rfl rfl ?_
              refine g_bipush (v := 24) C dX2_finds_41 (by decide) ?_
              refine g_icmp_ne (tgt := 48) C dX2_finds_43 (by decide) (fun c43_10 => ?_) (fun c43_10 => ?_)
              · skip
                refine g_iload_n (i := 1) C dX2_finds_48 rfl rfl ?_
                refine g_bz_eq (tgt := 74) C dX2_finds_49 (by decide) (fun q => absurd (c14_1.symm.trans q) (by decide)) (fun _ => ?_)
                refine g_lload C dX2_finds_52 rfl ?_
                refine g_lload_n (i := 2) C dX2_finds_54 rfl rfl ?_
                refine g_lcmp_gt (tgt := 74) C dX2_finds_55 dX2_finds_56 (by decide) (fun c55_11 => ?_) (fun c55_11 => absurd (Int64.not_le.mp c20_5) c55_11)
                refine g_aload_n (i := 0) C dX2_finds_74 rfl rfl ?_
                refine g_dup C dX2_finds_75 rfl ?_
                refine g_get C dX2_finds_76 fl_X2_44 0 rfl rfl ?_
                refine g_iconst (v := 1) C dX2_finds_79 (by decide) ?_
                refine g_iadd C dX2_finds_80 ?_
                refine g_eqi (show nI n + 1 = nI (n + 1) from nI_1 n) ?_
                refine g_put (Wd2 := mW K bd (M.1, M.2.1, M.2.2.1, M.2.2.2.1, M.2.2.2.2.1, M.2.2.2.2.2.1, nI (n + 1), x, M.2.2.2.2.2.2.2.2.1, M.2.2.2.2.2.2.2.2.2) X) C dX2_finds_81 fp_X2_44 0 rfl rfl rfl (Nat.le_of_ble_eq_true rfl) rfl ?_
                refine g_aload_n (i := 0) C dX2_finds_84 rfl rfl ?_
                refine g_get C dX2_finds_85 fl_X2_47 0 rfl rfl ?_
                refine g_aload_n (i := 0) C dX2_finds_88 rfl rfl ?_
                refine g_get C dX2_finds_89 fl_X2_44 0 rfl rfl ?_
                refine g_callS (av := [.int x, .int (nI (n + 1))]) C dX2_finds_92 ln_X2_40 mf_X2_worth (kX2_worth K (mW K bd (M.1, M.2.1, M.2.2.1, M.2.2.2.1, M.2.2.2.2.1, M.2.2.2.2.2.1, nI (n + 1), x, M.2.2.2.2.2.2.2.2.1, M.2.2.2.2.2.2.2.2.2) X) x (n + 1) (by omega)) rfl rfl (Nat.le_of_ble_eq_true rfl) ⟨Nat.le_of_ble_eq_true rfl, Nat.le_of_ble_eq_true rfl⟩ ⟨Nat.zero_le _, Nat.zero_le _⟩ (fun _ => ?_)
                refine g_lstore (lv2 := [(0, .ref (bd 0)), (1, .int (bz hl)), (2, .long lo), (4, .int (bz hh)), (5, .long hi), (7, .long (wM x (n + 1)))]) C dX2_finds_95 (by decide) rfl ?_
                refine g_goto (tgt := 13) C dX2_finds_97 (by decide) ?_
                exact g_lvs [0, 1, 2, 3, 4, 5] rfl (ihlo (n + 1) _ _ (by have := n24 c43_10 (by omega); omega) (by omega) rfl (by rw [← hlo3, fnS_s (n := n) (by omega), c14_1, cond_true, if_neg c20_5, c26_8, cond_true, if_neg c33_9, if_neg c43_10]))
              · skip
                refine g_iconst (v := 0) C dX2_finds_46 (by decide) ?_
                exact hR _ _ _ _ () dX2_finds_47 (by rw [mFin, ← hlo3, fnS_s (n := n) (by omega), c14_1, cond_true, if_neg c20_5, c26_8, cond_true, if_neg c33_9, if_pos c43_10] <;> rfl) (by show _ = mW K bd (mFin M hl lo hh hi).2 X; rw [mFin, ← hlo3, fnS_s (n := n) (by omega), c14_1, cond_true, if_neg c20_5, c26_8, cond_true, if_neg c33_9, if_pos c43_10] <;> rfl)
  exact g_lvs [0, 1, 2, 3, 4, 5] rfl (lo 25 0 0 0 (by omega) (by omega) rfl rfl)

set_option maxHeartbeats 600000 in
set_option maxRecDepth 100000 in
theorem kX2_has (K : KT) (bd : Nat → Nat) (M : MSt) (X : va_W) (a : Int64) (k : Nat) (hk : k < 2 ^ 31) : ∀ lau : Launch, Con lau yX2_has cX2_has 11 (some .boolean) 1 28 K (mW K bd M X) (fun _ : Unit => mW K bd ((mHas M a k).2) X) [.ref (bd 0), .long a, .int (nI k)] (some (.int (bz (mHas M a k).1))) := by
  refine conZ (by decide) (Nat.le_of_ble_eq_true rfl) (fun E C hR => ?_)
  show G E K 0 0 (mW K bd M X) [(0, .ref (bd 0)), (1, .long a), (3, .int (nI k))] 0 []
  refine g_lload_n (i := 1) C dX2_has_0 rfl rfl ?_
  refine g_lstore (lv2 := [(0, .ref (bd 0)), (1, .long a), (3, .int (nI k)), (4, .long a)]) C dX2_has_1 (by decide) rfl ?_
  refine g_iload_n (i := 3) C dX2_has_3 rfl rfl ?_
  refine g_istore (lv2 := [(0, .ref (bd 0)), (1, .long a), (3, .int (nI k)), (4, .long a), (6, .int (nI k))]) C dX2_has_4 (by decide) rfl ?_
  have lp : ∀ (fuel : Nat) (j : Nat) (u : Int64), j ≤ k → j < fuel → rdM j u = rdM k a → G E K 0 0 (mW K bd M X) [(0, .ref (bd 0)), (1, .long a), (3, .int (nI k)), (4, .long u), (6, .int (nI j))] 6 [] := by
    intro fuel
    induction fuel with
    | zero =>
      intro j u hlp0 hlp1 hlp2
      omega
    | succ fuel ihlp =>
      intro j u hlp0 hlp1 hlp2
      refine g_iload C dX2_has_6 rfl ?_
      refine g_if_le (tgt := 36) C dX2_has_8 (by decide) (fun c8_1 => ?_) (fun c8_1 => ?_)
      · skip
        have ej : j = 0 := nz0 c8_1 (by omega)
        subst ej
        have er : rdM k a = (u, 0) := hlp2.symm
        refine g_iload C dX2_has_36 rfl ?_
        refine g_bipush (v := 23) C dX2_has_38 (by decide) ?_
        refine g_icmp_gt (tgt := 68) C dX2_has_40 (by decide) (fun c40_2 => ?_) (fun c40_2 => ?_)
        · skip
          refine g_iconst (v := 0) C dX2_has_68 (by decide) ?_
          exact hR _ _ _ _ () dX2_has_69 (by rw [mHas, er, hasR, if_pos c40_2] <;> rfl) (by show _ = mW K bd (mHas M a k).2 X; rw [mHas, er, hasR, if_pos c40_2] <;> rfl)
        · skip
          refine g_lload C dX2_has_43 rfl ?_
          refine g_ldc2 (v := 25) C dX2_has_45 kc_X2_50 ?_
          refine g_iload C dX2_has_48 rfl ?_
          refine g_lshl (v := shlL 25 (nI 0)) C dX2_has_50 rfl ?_
          refine g_lcmp_gt (tgt := 68) C dX2_has_51 dX2_has_52 (by decide) (fun c51_3 => ?_) (fun c51_3 => ?_)
          · skip
            refine g_iconst (v := 0) C dX2_has_68 (by decide) ?_
            exact hR _ _ _ _ () dX2_has_69 (by rw [mHas, er, hasR, if_neg c40_2, if_pos c51_3] <;> rfl) (by show _ = mW K bd (mHas M a k).2 X; rw [mHas, er, hasR, if_neg c40_2, if_pos c51_3] <;> rfl)
          · skip
            refine g_lload C dX2_has_55 rfl ?_
            refine g_ldc2 (v := 25) C dX2_has_57 kc_X2_50 ?_
            refine g_iload C dX2_has_60 rfl ?_
            refine g_lshl (v := shlL 25 (nI 0)) C dX2_has_62 rfl ?_
            refine g_lneg C dX2_has_63 ?_
            refine g_lcmp_ge (tgt := 70) C dX2_has_64 dX2_has_65 (by decide) (fun c64_4 => ?_) (fun c64_4 => ?_)
            · skip
              refine g_lload C dX2_has_70 rfl ?_
              refine g_ldc2 (v := 16777216) C dX2_has_72 kc_X2_36 ?_
              refine g_iload C dX2_has_75 rfl ?_
              refine g_lshr (v := shrL 16777216 (nI 0)) C dX2_has_77 rfl ?_
              refine g_lmul C dX2_has_78 ?_
              refine g_lstore (lv2 := [(0, .ref (bd 0)), (1, .long a), (3, .int (nI k)), (4, .long u), (6, .int (nI 0)), (7, .long (u * (shrL 16777216 (nI 0))))]) C dX2_has_79 (by decide) rfl ?_
              refine g_aload_n (i := 0) C dX2_has_81 rfl rfl ?_
              refine g_iconst (v := 0) C dX2_has_82 (by decide) ?_
              refine g_put (Wd2 := mW K bd (M.1, M.2.1, M.2.2.1, M.2.2.2.1, M.2.2.2.2.1, M.2.2.2.2.2.1, 0, M.2.2.2.2.2.2.2.1, M.2.2.2.2.2.2.2.2.1, M.2.2.2.2.2.2.2.2.2) X) C dX2_has_83 fp_X2_44 0 rfl rfl rfl (Nat.le_of_ble_eq_true rfl) rfl ?_
              refine g_aload_n (i := 0) C dX2_has_86 rfl rfl ?_
              refine g_iconst (v := 0) C dX2_has_87 (by decide) ?_
              refine g_put (Wd2 := mW K bd (M.1, M.2.1, M.2.2.1, M.2.2.2.1, M.2.2.2.2.1, M.2.2.2.2.2.1, 0, 0, M.2.2.2.2.2.2.2.2.1, M.2.2.2.2.2.2.2.2.2) X) C dX2_has_88 fp_X2_47 0 rfl rfl rfl (Nat.le_of_ble_eq_true rfl) rfl ?_
              refine g_lconst (v := 0) C dX2_has_91 (by decide) ?_
              refine g_lstore (lv2 := [(0, .ref (bd 0)), (1, .long a), (3, .int (nI k)), (4, .long u), (6, .int (nI 0)), (7, .long (u * (shrL 16777216 (nI 0)))), (9, .long 0)]) C dX2_has_92 (by decide) rfl ?_
              obtain ⟨v, hv⟩ : ∃ v, v = u * (shrL 16777216 (nI 0)) := ⟨_, rfl⟩
              rw [← hv]
              have lo : ∀ (fuel2 : Nat) (n : Nat) (x : Int32) (z : Int64), n ≤ 24 → 24 < n + fuel2 → z = wM x n → hsM v (25 - n) n x = hsM v 25 0 0 → G E K 0 0 (mW K bd (M.1, M.2.1, M.2.2.1, M.2.2.2.1, M.2.2.2.2.1, M.2.2.2.2.2.1, nI n, x, M.2.2.2.2.2.2.2.2.1, M.2.2.2.2.2.2.2.2.2) X) [(0, .ref (bd 0)), (1, .long a), (3, .int (nI k)), (4, .long u), (6, .int (nI 0)), (7, .long v), (9, .long z)] 94 [] := by
                intro fuel2
                induction fuel2 with
                | zero =>
                  intro n x z hlo0 hlo1 hlo2 hlo3
                  omega
                | succ fuel2 ihlo =>
                  intro n x z hlo0 hlo1 hlo2 hlo3
                  subst hlo2
                  refine g_lload C dX2_has_94 rfl ?_
                  refine g_lload C dX2_has_96 rfl ?_
                  refine g_lcmp_eq (tgt := 162) C dX2_has_98 dX2_has_99 (by decide) (fun c98_5 => ?_) (fun c98_5 => ?_)
                  · skip
                    refine g_iconst (v := 1) C dX2_has_162 (by decide) ?_
                    exact hR _ _ _ _ () dX2_has_163 (by rw [mHas, er, hasR, if_neg c40_2, if_neg c51_3, if_pos c64_4, ← hv, hasV, ← hlo3, hsM_s (n := n) (by omega), if_pos c98_5] <;> rfl) (by show _ = mW K bd (mHas M a k).2 X; rw [mHas, er, hasR, if_neg c40_2, if_neg c51_3, if_pos c64_4, ← hv, hasV, ← hlo3, hsM_s (n := n) (by omega), if_pos c98_5] <;> rfl)
                  · skip
                    refine g_aload_n (i := 0) C dX2_has_102 rfl rfl ?_
                    refine g_get C dX2_has_103 fl_X2_44 0 rfl rfl ?_
                    refine g_bipush (v := 24) C dX2_has_106 (by decide) ?_
                    refine g_icmp_ne (tgt := 113) C dX2_has_108 (by decide) (fun c108_6 => ?_) (fun c108_6 => ?_)
                    · skip
                      refine g_lload C dX2_has_113 rfl ?_
                      refine g_lload C dX2_has_115 rfl ?_
                      refine g_lcmp_ge (tgt := 136) C dX2_has_117 dX2_has_118 (by decide) (fun c117_7 => ?_) (fun c117_7 => ?_)
                      · skip
                        refine g_aload_n (i := 0) C dX2_has_136 rfl rfl ?_
                        refine g_dup C dX2_has_137 rfl ?_
                        refine g_get C dX2_has_138 fl_X2_44 0 rfl rfl ?_
                        refine g_iconst (v := 1) C dX2_has_141 (by decide) ?_
                        refine g_iadd C dX2_has_142 ?_
                        refine g_eqi (show nI n + 1 = nI (n + 1) from nI_1 n) ?_
                        refine g_put (Wd2 := mW K bd (M.1, M.2.1, M.2.2.1, M.2.2.2.1, M.2.2.2.2.1, M.2.2.2.2.2.1, nI (n + 1), x, M.2.2.2.2.2.2.2.2.1, M.2.2.2.2.2.2.2.2.2) X) C dX2_has_143 fp_X2_44 0 rfl rfl rfl (Nat.le_of_ble_eq_true rfl) rfl ?_
                        refine g_aload_n (i := 0) C dX2_has_146 rfl rfl ?_
                        refine g_get C dX2_has_147 fl_X2_47 0 rfl rfl ?_
                        refine g_aload_n (i := 0) C dX2_has_150 rfl rfl ?_
                        refine g_get C dX2_has_151 fl_X2_44 0 rfl rfl ?_
                        refine g_callS (av := [.int x, .int (nI (n + 1))]) C dX2_has_154 ln_X2_40 mf_X2_worth (kX2_worth K (mW K bd (M.1, M.2.1, M.2.2.1, M.2.2.2.1, M.2.2.2.2.1, M.2.2.2.2.2.1, nI (n + 1), x, M.2.2.2.2.2.2.2.2.1, M.2.2.2.2.2.2.2.2.2) X) x (n + 1) (by omega)) rfl rfl (Nat.le_of_ble_eq_true rfl) ⟨Nat.le_of_ble_eq_true rfl, Nat.le_of_ble_eq_true rfl⟩ ⟨Nat.zero_le _, Nat.zero_le _⟩ (fun _ => ?_)
                        refine g_lstore (lv2 := [(0, .ref (bd 0)), (1, .long a), (3, .int (nI k)), (4, .long u), (6, .int (nI 0)), (7, .long v), (9, .long (wM x (n + 1)))]) C dX2_has_157 (by decide) rfl ?_
                        refine g_goto (tgt := 94) C dX2_has_159 (by decide) ?_
                        exact g_lvs [0, 1, 2, 3, 4, 5, 6] rfl (ihlo (n + 1) _ _ (by have := n24 c108_6 (by omega); omega) (by omega) rfl (by rw [← hlo3, hsM_s (n := n) (by omega), if_neg c98_5, if_neg c108_6, if_pos c117_7]))
                      · skip
                        refine g_aload_n (i := 0) C dX2_has_121 rfl rfl ?_
                        refine g_dup C dX2_has_122 rfl ?_
                        refine g_get C dX2_has_123 fl_X2_47 0 rfl rfl ?_
                        refine g_iconst (v := 1) C dX2_has_126 (by decide) ?_
                        refine g_aload_n (i := 0) C dX2_has_127 rfl rfl ?_
                        refine g_get C dX2_has_128 fl_X2_44 0 rfl rfl ?_
                        refine g_ishl C dX2_has_131 ?_
                        refine g_ior C dX2_has_132 ?_
                        refine g_put (Wd2 := mW K bd (M.1, M.2.1, M.2.2.1, M.2.2.2.1, M.2.2.2.2.1, M.2.2.2.2.2.1, nI n, x ||| (1 <<< ((nI n) &&& 31)), M.2.2.2.2.2.2.2.2.1, M.2.2.2.2.2.2.2.2.2) X) C dX2_has_133 fp_X2_47 0 rfl rfl rfl (Nat.le_of_ble_eq_true rfl) rfl ?_
                        refine g_aload_n (i := 0) C dX2_has_136 rfl rfl ?_
                        refine g_dup C dX2_has_137 rfl ?_
                        refine g_get C dX2_has_138 fl_X2_44 0 rfl rfl ?_
                        refine g_iconst (v := 1) C dX2_has_141 (by decide) ?_
                        refine g_iadd C dX2_has_142 ?_
                        refine g_eqi (show nI n + 1 = nI (n + 1) from nI_1 n) ?_
                        refine g_put (Wd2 := mW K bd (M.1, M.2.1, M.2.2.1, M.2.2.2.1, M.2.2.2.2.1, M.2.2.2.2.2.1, nI (n + 1), x ||| (1 <<< ((nI n) &&& 31)), M.2.2.2.2.2.2.2.2.1, M.2.2.2.2.2.2.2.2.2) X) C dX2_has_143 fp_X2_44 0 rfl rfl rfl (Nat.le_of_ble_eq_true rfl) rfl ?_
                        refine g_aload_n (i := 0) C dX2_has_146 rfl rfl ?_
                        refine g_get C dX2_has_147 fl_X2_47 0 rfl rfl ?_
                        refine g_aload_n (i := 0) C dX2_has_150 rfl rfl ?_
                        refine g_get C dX2_has_151 fl_X2_44 0 rfl rfl ?_
                        refine g_callS (av := [.int (x ||| (1 <<< ((nI n) &&& 31))), .int (nI (n + 1))]) C dX2_has_154 ln_X2_40 mf_X2_worth (kX2_worth K (mW K bd (M.1, M.2.1, M.2.2.1, M.2.2.2.1, M.2.2.2.2.1, M.2.2.2.2.2.1, nI (n + 1), x ||| (1 <<< ((nI n) &&& 31)), M.2.2.2.2.2.2.2.2.1, M.2.2.2.2.2.2.2.2.2) X) (x ||| (1 <<< ((nI n) &&& 31))) (n + 1) (by omega)) rfl rfl (Nat.le_of_ble_eq_true rfl) ⟨Nat.le_of_ble_eq_true rfl, Nat.le_of_ble_eq_true rfl⟩ ⟨Nat.zero_le _, Nat.zero_le _⟩ (fun _ => ?_)
                        refine g_lstore (lv2 := [(0, .ref (bd 0)), (1, .long a), (3, .int (nI k)), (4, .long u), (6, .int (nI 0)), (7, .long v), (9, .long (wM (x ||| (1 <<< ((nI n) &&& 31))) (n + 1)))]) C dX2_has_157 (by decide) rfl ?_
                        refine g_goto (tgt := 94) C dX2_has_159 (by decide) ?_
                        exact g_lvs [0, 1, 2, 3, 4, 5, 6] rfl (ihlo (n + 1) _ _ (by have := n24 c108_6 (by omega); omega) (by omega) rfl (by rw [← hlo3, hsM_s (n := n) (by omega), if_neg c98_5, if_neg c108_6, if_neg c117_7]))
                    · skip
                      refine g_iconst (v := 0) C dX2_has_111 (by decide) ?_
                      exact hR _ _ _ _ () dX2_has_112 (by rw [mHas, er, hasR, if_neg c40_2, if_neg c51_3, if_pos c64_4, ← hv, hasV, ← hlo3, hsM_s (n := n) (by omega), if_neg c98_5, if_pos c108_6] <;> rfl) (by show _ = mW K bd (mHas M a k).2 X; rw [mHas, er, hasR, if_neg c40_2, if_neg c51_3, if_pos c64_4, ← hv, hasV, ← hlo3, hsM_s (n := n) (by omega), if_neg c98_5, if_pos c108_6] <;> rfl)
              exact g_lvs [0, 1, 2, 3, 4, 5, 6] rfl (lo 25 0 0 0 (by omega) (by omega) rfl rfl)
            · skip
              refine g_iconst (v := 0) C dX2_has_68 (by decide) ?_
              exact hR _ _ _ _ () dX2_has_69 (by rw [mHas, er, hasR, if_neg c40_2, if_neg c51_3, if_neg c64_4] <;> rfl) (by show _ = mW K bd (mHas M a k).2 X; rw [mHas, er, hasR, if_neg c40_2, if_neg c51_3, if_neg c64_4] <;> rfl)
      · skip
        obtain ⟨j2, rfl⟩ := nz c8_1
        refine g_lload C dX2_has_11 rfl ?_
        refine g_ldc2 (v := 2) C dX2_has_13 kc_X2_38 ?_
        refine g_lrem C dX2_has_16 (by decide) ?_
        refine g_lconst (v := 0) C dX2_has_17 (by decide) ?_
        refine g_lcmp_ne (tgt := 36) C dX2_has_18 dX2_has_19 (by decide) (fun c18_8 => ?_) (fun c18_8 => ?_)
        · skip
          have er : rdM k a = (u, j2 + 1) := by rw [← hlp2, rdM, if_neg c18_8]
          generalize j2 + 1 = k2 at er hlp0 ⊢
          refine g_iload C dX2_has_36 rfl ?_
          refine g_bipush (v := 23) C dX2_has_38 (by decide) ?_
          refine g_icmp_gt (tgt := 68) C dX2_has_40 (by decide) (fun c40_9 => ?_) (fun c40_9 => ?_)
          · skip
            refine g_iconst (v := 0) C dX2_has_68 (by decide) ?_
            exact hR _ _ _ _ () dX2_has_69 (by rw [mHas, er, hasR, if_pos c40_9] <;> rfl) (by show _ = mW K bd (mHas M a k).2 X; rw [mHas, er, hasR, if_pos c40_9] <;> rfl)
          · skip
            refine g_lload C dX2_has_43 rfl ?_
            refine g_ldc2 (v := 25) C dX2_has_45 kc_X2_50 ?_
            refine g_iload C dX2_has_48 rfl ?_
            refine g_lshl (v := shlL 25 (nI k2)) C dX2_has_50 rfl ?_
            refine g_lcmp_gt (tgt := 68) C dX2_has_51 dX2_has_52 (by decide) (fun c51_10 => ?_) (fun c51_10 => ?_)
            · skip
              refine g_iconst (v := 0) C dX2_has_68 (by decide) ?_
              exact hR _ _ _ _ () dX2_has_69 (by rw [mHas, er, hasR, if_neg c40_9, if_pos c51_10] <;> rfl) (by show _ = mW K bd (mHas M a k).2 X; rw [mHas, er, hasR, if_neg c40_9, if_pos c51_10] <;> rfl)
            · skip
              refine g_lload C dX2_has_55 rfl ?_
              refine g_ldc2 (v := 25) C dX2_has_57 kc_X2_50 ?_
              refine g_iload C dX2_has_60 rfl ?_
              refine g_lshl (v := shlL 25 (nI k2)) C dX2_has_62 rfl ?_
              refine g_lneg C dX2_has_63 ?_
              refine g_lcmp_ge (tgt := 70) C dX2_has_64 dX2_has_65 (by decide) (fun c64_11 => ?_) (fun c64_11 => ?_)
              · skip
                refine g_lload C dX2_has_70 rfl ?_
                refine g_ldc2 (v := 16777216) C dX2_has_72 kc_X2_36 ?_
                refine g_iload C dX2_has_75 rfl ?_
                refine g_lshr (v := shrL 16777216 (nI k2)) C dX2_has_77 rfl ?_
                refine g_lmul C dX2_has_78 ?_
                refine g_lstore (lv2 := [(0, .ref (bd 0)), (1, .long a), (3, .int (nI k)), (4, .long u), (6, .int (nI k2)), (7, .long (u * (shrL 16777216 (nI k2))))]) C dX2_has_79 (by decide) rfl ?_
                refine g_aload_n (i := 0) C dX2_has_81 rfl rfl ?_
                refine g_iconst (v := 0) C dX2_has_82 (by decide) ?_
                refine g_put (Wd2 := mW K bd (M.1, M.2.1, M.2.2.1, M.2.2.2.1, M.2.2.2.2.1, M.2.2.2.2.2.1, 0, M.2.2.2.2.2.2.2.1, M.2.2.2.2.2.2.2.2.1, M.2.2.2.2.2.2.2.2.2) X) C dX2_has_83 fp_X2_44 0 rfl rfl rfl (Nat.le_of_ble_eq_true rfl) rfl ?_
                refine g_aload_n (i := 0) C dX2_has_86 rfl rfl ?_
                refine g_iconst (v := 0) C dX2_has_87 (by decide) ?_
                refine g_put (Wd2 := mW K bd (M.1, M.2.1, M.2.2.1, M.2.2.2.1, M.2.2.2.2.1, M.2.2.2.2.2.1, 0, 0, M.2.2.2.2.2.2.2.2.1, M.2.2.2.2.2.2.2.2.2) X) C dX2_has_88 fp_X2_47 0 rfl rfl rfl (Nat.le_of_ble_eq_true rfl) rfl ?_
                refine g_lconst (v := 0) C dX2_has_91 (by decide) ?_
                refine g_lstore (lv2 := [(0, .ref (bd 0)), (1, .long a), (3, .int (nI k)), (4, .long u), (6, .int (nI k2)), (7, .long (u * (shrL 16777216 (nI k2)))), (9, .long 0)]) C dX2_has_92 (by decide) rfl ?_
                obtain ⟨v, hv⟩ : ∃ v, v = u * (shrL 16777216 (nI k2)) := ⟨_, rfl⟩
                rw [← hv]
                have lo : ∀ (fuel2 : Nat) (n : Nat) (x : Int32) (z : Int64), n ≤ 24 → 24 < n + fuel2 → z = wM x n → hsM v (25 - n) n x = hsM v 25 0 0 → G E K 0 0 (mW K bd (M.1, M.2.1, M.2.2.1, M.2.2.2.1, M.2.2.2.2.1, M.2.2.2.2.2.1, nI n, x, M.2.2.2.2.2.2.2.2.1, M.2.2.2.2.2.2.2.2.2) X) [(0, .ref (bd 0)), (1, .long a), (3, .int (nI k)), (4, .long u), (6, .int (nI k2)), (7, .long v), (9, .long z)] 94 [] := by
                  intro fuel2
                  induction fuel2 with
                  | zero =>
                    intro n x z hlo0 hlo1 hlo2 hlo3
                    omega
                  | succ fuel2 ihlo =>
                    intro n x z hlo0 hlo1 hlo2 hlo3
                    subst hlo2
                    refine g_lload C dX2_has_94 rfl ?_
                    refine g_lload C dX2_has_96 rfl ?_
                    refine g_lcmp_eq (tgt := 162) C dX2_has_98 dX2_has_99 (by decide) (fun c98_12 => ?_) (fun c98_12 => ?_)
                    · skip
                      refine g_iconst (v := 1) C dX2_has_162 (by decide) ?_
                      exact hR _ _ _ _ () dX2_has_163 (by rw [mHas, er, hasR, if_neg c40_9, if_neg c51_10, if_pos c64_11, ← hv, hasV, ← hlo3, hsM_s (n := n) (by omega), if_pos c98_12] <;> rfl) (by show _ = mW K bd (mHas M a k).2 X; rw [mHas, er, hasR, if_neg c40_9, if_neg c51_10, if_pos c64_11, ← hv, hasV, ← hlo3, hsM_s (n := n) (by omega), if_pos c98_12] <;> rfl)
                    · skip
                      refine g_aload_n (i := 0) C dX2_has_102 rfl rfl ?_
                      refine g_get C dX2_has_103 fl_X2_44 0 rfl rfl ?_
                      refine g_bipush (v := 24) C dX2_has_106 (by decide) ?_
                      refine g_icmp_ne (tgt := 113) C dX2_has_108 (by decide) (fun c108_13 => ?_) (fun c108_13 => ?_)
                      · skip
                        refine g_lload C dX2_has_113 rfl ?_
                        refine g_lload C dX2_has_115 rfl ?_
                        refine g_lcmp_ge (tgt := 136) C dX2_has_117 dX2_has_118 (by decide) (fun c117_14 => ?_) (fun c117_14 => ?_)
                        · skip
                          refine g_aload_n (i := 0) C dX2_has_136 rfl rfl ?_
                          refine g_dup C dX2_has_137 rfl ?_
                          refine g_get C dX2_has_138 fl_X2_44 0 rfl rfl ?_
                          refine g_iconst (v := 1) C dX2_has_141 (by decide) ?_
                          refine g_iadd C dX2_has_142 ?_
                          refine g_eqi (show nI n + 1 = nI (n + 1) from nI_1 n) ?_
                          refine g_put (Wd2 := mW K bd (M.1, M.2.1, M.2.2.1, M.2.2.2.1, M.2.2.2.2.1, M.2.2.2.2.2.1, nI (n + 1), x, M.2.2.2.2.2.2.2.2.1, M.2.2.2.2.2.2.2.2.2) X) C dX2_has_143 fp_X2_44 0 rfl rfl rfl (Nat.le_of_ble_eq_true rfl) rfl ?_
                          refine g_aload_n (i := 0) C dX2_has_146 rfl rfl ?_
                          refine g_get C dX2_has_147 fl_X2_47 0 rfl rfl ?_
                          refine g_aload_n (i := 0) C dX2_has_150 rfl rfl ?_
                          refine g_get C dX2_has_151 fl_X2_44 0 rfl rfl ?_
                          refine g_callS (av := [.int x, .int (nI (n + 1))]) C dX2_has_154 ln_X2_40 mf_X2_worth (kX2_worth K (mW K bd (M.1, M.2.1, M.2.2.1, M.2.2.2.1, M.2.2.2.2.1, M.2.2.2.2.2.1, nI (n + 1), x, M.2.2.2.2.2.2.2.2.1, M.2.2.2.2.2.2.2.2.2) X) x (n + 1) (by omega)) rfl rfl (Nat.le_of_ble_eq_true rfl) ⟨Nat.le_of_ble_eq_true rfl, Nat.le_of_ble_eq_true rfl⟩ ⟨Nat.zero_le _, Nat.zero_le _⟩ (fun _ => ?_)
                          refine g_lstore (lv2 := [(0, .ref (bd 0)), (1, .long a), (3, .int (nI k)), (4, .long u), (6, .int (nI k2)), (7, .long v), (9, .long (wM x (n + 1)))]) C dX2_has_157 (by decide) rfl ?_
                          refine g_goto (tgt := 94) C dX2_has_159 (by decide) ?_
                          exact g_lvs [0, 1, 2, 3, 4, 5, 6] rfl (ihlo (n + 1) _ _ (by have := n24 c108_13 (by omega); omega) (by omega) rfl (by rw [← hlo3, hsM_s (n := n) (by omega), if_neg c98_12, if_neg c108_13, if_pos c117_14]))
                        · skip
                          refine g_aload_n (i := 0) C dX2_has_121 rfl rfl ?_
                          refine g_dup C dX2_has_122 rfl ?_
                          refine g_get C dX2_has_123 fl_X2_47 0 rfl rfl ?_
                          refine g_iconst (v := 1) C dX2_has_126 (by decide) ?_
                          refine g_aload_n (i := 0) C dX2_has_127 rfl rfl ?_
                          refine g_get C dX2_has_128 fl_X2_44 0 rfl rfl ?_
                          refine g_ishl C dX2_has_131 ?_
                          refine g_ior C dX2_has_132 ?_
                          refine g_put (Wd2 := mW K bd (M.1, M.2.1, M.2.2.1, M.2.2.2.1, M.2.2.2.2.1, M.2.2.2.2.2.1, nI n, x ||| (1 <<< ((nI n) &&& 31)), M.2.2.2.2.2.2.2.2.1, M.2.2.2.2.2.2.2.2.2) X) C dX2_has_133 fp_X2_47 0 rfl rfl rfl (Nat.le_of_ble_eq_true rfl) rfl ?_
                          refine g_aload_n (i := 0) C dX2_has_136 rfl rfl ?_
                          refine g_dup C dX2_has_137 rfl ?_
                          refine g_get C dX2_has_138 fl_X2_44 0 rfl rfl ?_
                          refine g_iconst (v := 1) C dX2_has_141 (by decide) ?_
                          refine g_iadd C dX2_has_142 ?_
                          refine g_eqi (show nI n + 1 = nI (n + 1) from nI_1 n) ?_
                          refine g_put (Wd2 := mW K bd (M.1, M.2.1, M.2.2.1, M.2.2.2.1, M.2.2.2.2.1, M.2.2.2.2.2.1, nI (n + 1), x ||| (1 <<< ((nI n) &&& 31)), M.2.2.2.2.2.2.2.2.1, M.2.2.2.2.2.2.2.2.2) X) C dX2_has_143 fp_X2_44 0 rfl rfl rfl (Nat.le_of_ble_eq_true rfl) rfl ?_
                          refine g_aload_n (i := 0) C dX2_has_146 rfl rfl ?_
                          refine g_get C dX2_has_147 fl_X2_47 0 rfl rfl ?_
                          refine g_aload_n (i := 0) C dX2_has_150 rfl rfl ?_
                          refine g_get C dX2_has_151 fl_X2_44 0 rfl rfl ?_
                          refine g_callS (av := [.int (x ||| (1 <<< ((nI n) &&& 31))), .int (nI (n + 1))]) C dX2_has_154 ln_X2_40 mf_X2_worth (kX2_worth K (mW K bd (M.1, M.2.1, M.2.2.1, M.2.2.2.1, M.2.2.2.2.1, M.2.2.2.2.2.1, nI (n + 1), x ||| (1 <<< ((nI n) &&& 31)), M.2.2.2.2.2.2.2.2.1, M.2.2.2.2.2.2.2.2.2) X) (x ||| (1 <<< ((nI n) &&& 31))) (n + 1) (by omega)) rfl rfl (Nat.le_of_ble_eq_true rfl) ⟨Nat.le_of_ble_eq_true rfl, Nat.le_of_ble_eq_true rfl⟩ ⟨Nat.zero_le _, Nat.zero_le _⟩ (fun _ => ?_)
                          refine g_lstore (lv2 := [(0, .ref (bd 0)), (1, .long a), (3, .int (nI k)), (4, .long u), (6, .int (nI k2)), (7, .long v), (9, .long (wM (x ||| (1 <<< ((nI n) &&& 31))) (n + 1)))]) C dX2_has_157 (by decide) rfl ?_
                          refine g_goto (tgt := 94) C dX2_has_159 (by decide) ?_
                          exact g_lvs [0, 1, 2, 3, 4, 5, 6] rfl (ihlo (n + 1) _ _ (by have := n24 c108_13 (by omega); omega) (by omega) rfl (by rw [← hlo3, hsM_s (n := n) (by omega), if_neg c98_12, if_neg c108_13, if_neg c117_14]))
                      · skip
                        refine g_iconst (v := 0) C dX2_has_111 (by decide) ?_
                        exact hR _ _ _ _ () dX2_has_112 (by rw [mHas, er, hasR, if_neg c40_9, if_neg c51_10, if_pos c64_11, ← hv, hasV, ← hlo3, hsM_s (n := n) (by omega), if_neg c98_12, if_pos c108_13] <;> rfl) (by show _ = mW K bd (mHas M a k).2 X; rw [mHas, er, hasR, if_neg c40_9, if_neg c51_10, if_pos c64_11, ← hv, hasV, ← hlo3, hsM_s (n := n) (by omega), if_neg c98_12, if_pos c108_13] <;> rfl)
                exact g_lvs [0, 1, 2, 3, 4, 5, 6] rfl (lo 25 0 0 0 (by omega) (by omega) rfl rfl)
              · skip
                refine g_iconst (v := 0) C dX2_has_68 (by decide) ?_
                exact hR _ _ _ _ () dX2_has_69 (by rw [mHas, er, hasR, if_neg c40_9, if_neg c51_10, if_neg c64_11] <;> rfl) (by show _ = mW K bd (mHas M a k).2 X; rw [mHas, er, hasR, if_neg c40_9, if_neg c51_10, if_neg c64_11] <;> rfl)
        · skip
          refine g_lload C dX2_has_22 rfl ?_
          refine g_ldc2 (v := 2) C dX2_has_24 kc_X2_38 ?_
          refine g_ldiv C dX2_has_27 (by decide) ?_
          refine g_lstore (lv2 := [(0, .ref (bd 0)), (1, .long a), (3, .int (nI k)), (4, .long (u / 2)), (6, .int (nI (j2 + 1)))]) C dX2_has_28 (by decide) rfl ?_
          refine g_iinc (v := nI j2) (lv2 := [(0, .ref (bd 0)), (1, .long a), (3, .int (nI k)), (4, .long (u / 2)), (6, .int (nI j2))]) C dX2_has_30 rfl (decS j2) (by decide) rfl ?_
          refine g_goto (tgt := 6) C dX2_has_33 (by decide) ?_
          exact g_lvs [0, 1, 2, 3, 4] rfl (ihlp j2 _ (by omega) (by omega) (by rw [← hlp2, rdM, if_pos c18_8]))
  exact g_lvs [0, 1, 2, 3, 4] rfl (lp (k + 1) k a (Nat.le_refl _) (by omega) rfl)

set_option maxHeartbeats 600000 in
set_option maxRecDepth 100000 in
theorem kX2_keeps (K : KT) (bd : Nat → Nat) (M : MSt) (X : va_W) (s : Int32) (b : Bool) (hs : isReg s = true) : ∀ lau : Launch, Con lau yX2_keeps cX2_keeps 3 (some .int) 0 0 K (mW K bd M X) (fun _ : Unit => mW K bd ((keep M s b).2) X) [.ref (bd 0), .int s, .int (bz b)] (some (.int ((keep M s b).1))) := by
  refine conI (by decide) (Nat.le_of_ble_eq_true rfl) (fun E C hR => ?_)
  show G E K 0 0 (mW K bd M X) [(0, .ref (bd 0)), (1, .int s), (2, .int (bz b))] 0 []
  refine g_iload_n (i := 2) C dX2_keeps_0 rfl rfl ?_
  refine g_bz_ne (tgt := 7) C dX2_keeps_1 (by decide) (fun c1_1 => ?_) (fun c1_1 => ?_)
  · skip
    refine g_aload_n (i := 0) C dX2_keeps_7 rfl rfl ?_
    refine g_get C dX2_keeps_8 fl_X2_7 0 rfl rfl ?_
    refine g_iload_n (i := 1) C dX2_keeps_11 rfl rfl ?_
    refine g_aload_n (i := 0) C dX2_keeps_12 rfl rfl ?_
    refine g_get C dX2_keeps_13 fl_X2_44 0 rfl rfl ?_
    refine g_iast (Wd2 := mW K bd (upd M.1 s.toNatClampNeg M.2.2.2.2.2.2.1, M.2.1, M.2.2.1, M.2.2.2.1, M.2.2.2.2.1, M.2.2.2.2.2.1, M.2.2.2.2.2.2.1, M.2.2.2.2.2.2.2.1, M.2.2.2.2.2.2.2.2.1, M.2.2.2.2.2.2.2.2.2) X) C dX2_keeps_16 1 rfl (isReg_in hs) rfl ?_
    refine g_aload_n (i := 0) C dX2_keeps_17 rfl rfl ?_
    refine g_get C dX2_keeps_18 fl_X2_13 0 rfl rfl ?_
    refine g_iload_n (i := 1) C dX2_keeps_21 rfl rfl ?_
    refine g_aload_n (i := 0) C dX2_keeps_22 rfl rfl ?_
    refine g_get C dX2_keeps_23 fl_X2_47 0 rfl rfl ?_
    refine g_iast (Wd2 := mW K bd (upd M.1 s.toNatClampNeg M.2.2.2.2.2.2.1, upd M.2.1 s.toNatClampNeg M.2.2.2.2.2.2.2.1, M.2.2.1, M.2.2.2.1, M.2.2.2.2.1, M.2.2.2.2.2.1, M.2.2.2.2.2.2.1, M.2.2.2.2.2.2.2.1, M.2.2.2.2.2.2.2.2.1, M.2.2.2.2.2.2.2.2.2) X) C dX2_keeps_26 2 rfl (isReg_in hs) rfl ?_
    refine g_aload_n (i := 0) C dX2_keeps_27 rfl rfl ?_
    refine g_get C dX2_keeps_28 fl_X2_44 0 rfl rfl ?_
    exact hR _ _ _ _ () dX2_keeps_31 (by rw [keep, c1_1, cond_true]) (by show _ = mW K bd (keep M s b).2 X; rw [keep, c1_1, cond_true])
  · skip
    refine g_bipush (v := (-3)) C dX2_keeps_4 (by decide) ?_
    exact hR _ _ _ _ () dX2_keeps_6 (by rw [keep, c1_1, cond_false]) (by show _ = mW K bd (keep M s b).2 X; rw [keep, c1_1, cond_false])

set_option maxHeartbeats 600000 in
set_option maxRecDepth 100000 in
theorem kX2_row (K : KT) (bd : Nat → Nat) (M : MSt) (X : va_W) (s : Int32) (n : Int32) (x : Int32) : ∀ lau : Launch, Con lau yX2_row cX2_row 4 (some .int) 2 45 K (mW K bd M X) (fun _ : Unit => mW K bd ((mRow M s n x).2) X) [.ref (bd 0), .int s, .int n, .int x] (some (.int ((mRow M s n x).1))) := by
  refine conI (by decide) (Nat.le_of_ble_eq_true rfl) (fun E C hR => ?_)
  show G E K 0 0 (mW K bd M X) [(0, .ref (bd 0)), (1, .int s), (2, .int n), (3, .int x)] 0 []
  refine g_iload_n (i := 1) C dX2_row_0 rfl rfl ?_
  refine g_callS (av := [.int s]) C dX2_row_1 ln_X2_52 mf_X2_isRegister (kX2_isRegister K (mW K bd M X) s) rfl rfl (Nat.le_of_ble_eq_true rfl) ⟨Nat.le_of_ble_eq_true rfl, Nat.le_of_ble_eq_true rfl⟩ ⟨Nat.zero_le _, Nat.zero_le _⟩ (fun _ => ?_)
  refine g_bz_eq (tgt := 25) C dX2_row_4 (by decide) (fun c4_1 => ?_) (fun c4_1 => ?_)
  · skip
    refine g_iconst (v := (-1)) C dX2_row_25 (by decide) ?_
    exact hR _ _ _ _ () dX2_row_26 (by rw [mRow, c4_1, cond_false] <;> rfl) (by show _ = mW K bd (mRow M s n x).2 X; rw [mRow, c4_1, cond_false] <;> rfl)
  · skip
    refine g_iload_n (i := 2) C dX2_row_7 rfl rfl ?_
    refine g_i2l (v := Int32.toInt64 n) C dX2_row_8 rfl ?_
    refine g_lconst (v := 0) C dX2_row_9 (by decide) ?_
    refine g_ldc2 (v := 24) C dX2_row_10 kc_X2_56 ?_
    refine g_callS (av := [.long (Int32.toInt64 n), .long 0, .long 24]) C dX2_row_13 ln_X2_32 mf_X2_in (kX2_in K (mW K bd M X) (Int32.toInt64 n) 0 24) rfl rfl (Nat.le_of_ble_eq_true rfl) ⟨Nat.le_of_ble_eq_true rfl, Nat.le_of_ble_eq_true rfl⟩ ⟨Nat.zero_le _, Nat.zero_le _⟩ (fun _ => ?_)
    refine g_bz_eq (tgt := 25) C dX2_row_16 (by decide) (fun c16_2 => ?_) (fun c16_2 => ?_)
    · skip
      refine g_iconst (v := (-1)) C dX2_row_25 (by decide) ?_
      exact hR _ _ _ _ () dX2_row_26 (by rw [mRow, c4_1, cond_true, c16_2, cond_false] <;> rfl) (by show _ = mW K bd (mRow M s n x).2 X; rw [mRow, c4_1, cond_true, c16_2, cond_false] <;> rfl)
    · skip
      refine g_iload_n (i := 3) C dX2_row_19 rfl rfl ?_
      refine g_iload_n (i := 2) C dX2_row_20 rfl rfl ?_
      refine g_iushr (v := ushrI x n) C dX2_row_21 rfl ?_
      refine g_if_eq (tgt := 27) C dX2_row_22 (by decide) (fun c22_3 => ?_) (fun c22_3 => ?_)
      · skip
        refine g_aload_n (i := 0) C dX2_row_27 rfl rfl ?_
        refine g_get C dX2_row_28 fl_X2_7 0 rfl rfl ?_
        refine g_iload_n (i := 1) C dX2_row_31 rfl rfl ?_
        refine g_iload_n (i := 2) C dX2_row_32 rfl rfl ?_
        refine g_iast (Wd2 := mW K bd (upd M.1 s.toNatClampNeg n, M.2.1, M.2.2.1, M.2.2.2.1, M.2.2.2.2.1, M.2.2.2.2.2.1, M.2.2.2.2.2.2.1, M.2.2.2.2.2.2.2.1, M.2.2.2.2.2.2.2.2.1, M.2.2.2.2.2.2.2.2.2) X) C dX2_row_33 1 rfl (isReg_in c4_1) rfl ?_
        refine g_aload_n (i := 0) C dX2_row_34 rfl rfl ?_
        refine g_get C dX2_row_35 fl_X2_13 0 rfl rfl ?_
        refine g_iload_n (i := 1) C dX2_row_38 rfl rfl ?_
        refine g_iload_n (i := 3) C dX2_row_39 rfl rfl ?_
        refine g_iast (Wd2 := mW K bd (upd M.1 s.toNatClampNeg n, upd M.2.1 s.toNatClampNeg x, M.2.2.1, M.2.2.2.1, M.2.2.2.2.1, M.2.2.2.2.2.1, M.2.2.2.2.2.2.1, M.2.2.2.2.2.2.2.1, M.2.2.2.2.2.2.2.2.1, M.2.2.2.2.2.2.2.2.2) X) C dX2_row_40 2 rfl (isReg_in c4_1) rfl ?_
        refine g_iload_n (i := 2) C dX2_row_41 rfl rfl ?_
        exact hR _ _ _ _ () dX2_row_42 (by rw [mRow, c4_1, cond_true, c16_2, cond_true, if_pos c22_3] <;> rfl) (by show _ = mW K bd (mRow M s n x).2 X; rw [mRow, c4_1, cond_true, c16_2, cond_true, if_pos c22_3] <;> rfl)
      · skip
        refine g_iconst (v := (-1)) C dX2_row_25 (by decide) ?_
        exact hR _ _ _ _ () dX2_row_26 (by rw [mRow, c4_1, cond_true, c16_2, cond_true, if_neg c22_3] <;> rfl) (by show _ = mW K bd (mRow M s n x).2 X; rw [mRow, c4_1, cond_true, c16_2, cond_true, if_neg c22_3] <;> rfl)

set_option maxHeartbeats 600000 in
set_option maxRecDepth 100000 in
theorem kX2_number (K : KT) (bd : Nat → Nat) (M : MSt) (X : va_W) (s : Int32) (a : Int32) (k : Int32) : ∀ lau : Launch, Con lau yX2_number cX2_number 4 (some .int) 2 58 K (mW K bd M X) (fun _ : Unit => mW K bd ((mNum M s a k).2) X) [.ref (bd 0), .int s, .int a, .int k] (some (.int ((mNum M s a k).1))) := by
  refine conI (by decide) (Nat.le_of_ble_eq_true rfl) (fun E C hR => ?_)
  show G E K 0 0 (mW K bd M X) [(0, .ref (bd 0)), (1, .int s), (2, .int a), (3, .int k)] 0 []
  refine g_iload_n (i := 1) C dX2_number_0 rfl rfl ?_
  refine g_callS (av := [.int s]) C dX2_number_1 ln_X2_52 mf_X2_isRegister (kX2_isRegister K (mW K bd M X) s) rfl rfl (Nat.le_of_ble_eq_true rfl) ⟨Nat.le_of_ble_eq_true rfl, Nat.le_of_ble_eq_true rfl⟩ ⟨Nat.zero_le _, Nat.zero_le _⟩ (fun _ => ?_)
  refine g_bz_eq (tgt := 33) C dX2_number_4 (by decide) (fun c4_1 => ?_) (fun c4_1 => ?_)
  · skip
    refine g_iconst (v := (-1)) C dX2_number_33 (by decide) ?_
    exact hR _ _ _ _ () dX2_number_34 (by rw [mNum, c4_1, cond_false] <;> first | rfl | (rw [ek2, nI_clamp (by omega)] <;> rfl)) (by show _ = mW K bd (mNum M s a k).2 X; rw [mNum, c4_1, cond_false] <;> first | rfl | (rw [ek2, nI_clamp (by omega)] <;> rfl))
  · skip
    refine g_iload_n (i := 2) C dX2_number_7 rfl rfl ?_
    refine g_i2l (v := Int32.toInt64 a) C dX2_number_8 rfl ?_
    refine g_ldc2 (v := (-1000000000)) C dX2_number_9 kc_X2_58 ?_
    refine g_ldc2 (v := 1000000000) C dX2_number_12 kc_X2_60 ?_
    refine g_callS (av := [.long (Int32.toInt64 a), .long (-1000000000), .long 1000000000]) C dX2_number_15 ln_X2_32 mf_X2_in (kX2_in K (mW K bd M X) (Int32.toInt64 a) (-1000000000) 1000000000) rfl rfl (Nat.le_of_ble_eq_true rfl) ⟨Nat.le_of_ble_eq_true rfl, Nat.le_of_ble_eq_true rfl⟩ ⟨Nat.zero_le _, Nat.zero_le _⟩ (fun _ => ?_)
    refine g_bz_eq (tgt := 33) C dX2_number_18 (by decide) (fun c18_2 => ?_) (fun c18_2 => ?_)
    · skip
      refine g_iconst (v := (-1)) C dX2_number_33 (by decide) ?_
      exact hR _ _ _ _ () dX2_number_34 (by rw [mNum, c4_1, cond_true, c18_2, cond_false] <;> first | rfl | (rw [ek2, nI_clamp (by omega)] <;> rfl)) (by show _ = mW K bd (mNum M s a k).2 X; rw [mNum, c4_1, cond_true, c18_2, cond_false] <;> first | rfl | (rw [ek2, nI_clamp (by omega)] <;> rfl))
    · skip
      refine g_iload_n (i := 3) C dX2_number_21 rfl rfl ?_
      refine g_i2l (v := Int32.toInt64 k) C dX2_number_22 rfl ?_
      refine g_lconst (v := 0) C dX2_number_23 (by decide) ?_
      refine g_ldc2 (v := 20) C dX2_number_24 kc_X2_62 ?_
      refine g_callS (av := [.long (Int32.toInt64 k), .long 0, .long 20]) C dX2_number_27 ln_X2_32 mf_X2_in (kX2_in K (mW K bd M X) (Int32.toInt64 k) 0 20) rfl rfl (Nat.le_of_ble_eq_true rfl) ⟨Nat.le_of_ble_eq_true rfl, Nat.le_of_ble_eq_true rfl⟩ ⟨Nat.zero_le _, Nat.zero_le _⟩ (fun _ => ?_)
      refine g_bz_ne (tgt := 35) C dX2_number_30 (by decide) (fun c30_3 => ?_) (fun c30_3 => ?_)
      · skip
        obtain ⟨k2, hk2, ek2⟩ := in20 c30_3
        refine g_aload_n (i := 0) C dX2_number_35 rfl rfl ?_
        refine g_iload_n (i := 1) C dX2_number_36 rfl rfl ?_
        refine g_aload_n (i := 0) C dX2_number_37 rfl rfl ?_
        refine g_iload_n (i := 2) C dX2_number_38 rfl rfl ?_
        refine g_i2l (v := Int32.toInt64 a) C dX2_number_39 rfl ?_
        refine g_iload_n (i := 3) C dX2_number_40 rfl rfl ?_
        refine g_eqi ek2 ?_
        refine g_callV (av := [.long (Int32.toInt64 a), .int (nI k2)]) C dX2_number_41 ln_X2_64 mf_X2_has 0 rfl rfl (kX2_has K bd M X (Int32.toInt64 a) k2 (by omega)) rfl rfl (Nat.le_of_ble_eq_true rfl) ⟨Nat.le_of_ble_eq_true rfl, Nat.le_of_ble_eq_true rfl⟩ ⟨Nat.zero_le _, Nat.zero_le _⟩ (fun _ => ?_)
        refine g_callV (av := [.int s, .int (bz (mHas M (Int32.toInt64 a) k2).1)]) C dX2_number_44 ln_X2_68 mf_X2_keeps 0 rfl rfl (kX2_keeps K bd ((mHas M (Int32.toInt64 a) k2).2) X s ((mHas M (Int32.toInt64 a) k2).1) c4_1) rfl rfl (Nat.le_of_ble_eq_true rfl) ⟨Nat.le_of_ble_eq_true rfl, Nat.le_of_ble_eq_true rfl⟩ ⟨Nat.zero_le _, Nat.zero_le _⟩ (fun _ => ?_)
        exact hR _ _ _ _ () dX2_number_47 (by rw [mNum, c4_1, cond_true, c18_2, cond_true, c30_3, cond_true] <;> first | rfl | (rw [ek2, nI_clamp (by omega)] <;> rfl)) (by show _ = mW K bd (mNum M s a k).2 X; rw [mNum, c4_1, cond_true, c18_2, cond_true, c30_3, cond_true] <;> first | rfl | (rw [ek2, nI_clamp (by omega)] <;> rfl))
      · skip
        refine g_iconst (v := (-1)) C dX2_number_33 (by decide) ?_
        exact hR _ _ _ _ () dX2_number_34 (by rw [mNum, c4_1, cond_true, c18_2, cond_true, c30_3, cond_false] <;> first | rfl | (rw [ek2, nI_clamp (by omega)] <;> rfl)) (by show _ = mW K bd (mNum M s a k).2 X; rw [mNum, c4_1, cond_true, c18_2, cond_true, c30_3, cond_false] <;> first | rfl | (rw [ek2, nI_clamp (by omega)] <;> rfl))

set_option maxHeartbeats 600000 in
set_option maxRecDepth 100000 in
theorem kX2_at (K : KT) (bd : Nat → Nat) (M : MSt) (X : va_W) (s : Int32) (i : Int32) : ∀ lau : Launch, Con lau yX2_at cX2_at 3 (some .int) 2 45 K (mW K bd M X) (fun _ : Unit => mW K bd M X) [.ref (bd 0), .int s, .int i] (some (.int (mAt M s i))) := by
  refine conI (by decide) (Nat.le_of_ble_eq_true rfl) (fun E C hR => ?_)
  show G E K 0 0 (mW K bd M X) [(0, .ref (bd 0)), (1, .int s), (2, .int i)] 0 []
  refine g_iload_n (i := 1) C dX2_at_0 rfl rfl ?_
  refine g_callS (av := [.int s]) C dX2_at_1 ln_X2_52 mf_X2_isRegister (kX2_isRegister K (mW K bd M X) s) rfl rfl (Nat.le_of_ble_eq_true rfl) ⟨Nat.le_of_ble_eq_true rfl, Nat.le_of_ble_eq_true rfl⟩ ⟨Nat.zero_le _, Nat.zero_le _⟩ (fun _ => ?_)
  refine g_bz_eq (tgt := 12) C dX2_at_4 (by decide) (fun c4_1 => ?_) (fun c4_1 => ?_)
  · skip
    refine g_iconst (v := (-1)) C dX2_at_12 (by decide) ?_
    exact hR _ _ _ _ () dX2_at_13 (by rw [mAt, c4_1, cond_false] <;> rfl) (rfl)
  · skip
    refine g_iload_n (i := 2) C dX2_at_7 rfl rfl ?_
    refine g_iconst (v := (-1)) C dX2_at_8 (by decide) ?_
    refine g_icmp_ge (tgt := 14) C dX2_at_9 (by decide) (fun c9_2 => ?_) (fun c9_2 => ?_)
    · skip
      refine g_iload_n (i := 2) C dX2_at_14 rfl rfl ?_
      refine g_if_ge (tgt := 27) C dX2_at_15 (by decide) (fun c15_3 => ?_) (fun c15_3 => ?_)
      · skip
        refine g_iload_n (i := 2) C dX2_at_27 rfl rfl ?_
        refine g_aload_n (i := 0) C dX2_at_28 rfl rfl ?_
        refine g_get C dX2_at_29 fl_X2_7 0 rfl rfl ?_
        refine g_iload_n (i := 1) C dX2_at_32 rfl rfl ?_
        refine g_iald C dX2_at_33 1 rfl (isReg_in c4_1) ?_
        refine g_icmp_ge (tgt := 50) C dX2_at_34 (by decide) (fun c34_4 => ?_) (fun c34_4 => ?_)
        · skip
          refine g_bipush (v := (-4)) C dX2_at_50 (by decide) ?_
          exact hR _ _ _ _ () dX2_at_52 (by rw [mAt, c4_1, cond_true, if_pos c9_2, if_pos c15_3, if_pos c34_4] <;> rfl) (rfl)
        · skip
          refine g_aload_n (i := 0) C dX2_at_37 rfl rfl ?_
          refine g_get C dX2_at_38 fl_X2_13 0 rfl rfl ?_
          refine g_iload_n (i := 1) C dX2_at_41 rfl rfl ?_
          refine g_iald C dX2_at_42 2 rfl (isReg_in c4_1) ?_
          refine g_iload_n (i := 2) C dX2_at_43 rfl rfl ?_
          refine g_ishr C dX2_at_44 ?_
          refine g_iconst (v := 1) C dX2_at_45 (by decide) ?_
          refine g_iand C dX2_at_46 ?_
          refine g_eqi (sbz (M.2.1 s.toNatClampNeg) i) ?_
          refine g_goto (tgt := 52) C dX2_at_47 (by decide) ?_
          exact hR _ _ _ _ () dX2_at_52 (by rw [mAt, c4_1, cond_true, if_pos c9_2, if_pos c15_3, if_neg c34_4] <;> rfl) (rfl)
      · skip
        refine g_aload_n (i := 0) C dX2_at_18 rfl rfl ?_
        refine g_get C dX2_at_19 fl_X2_7 0 rfl rfl ?_
        refine g_iload_n (i := 1) C dX2_at_22 rfl rfl ?_
        refine g_iald C dX2_at_23 1 rfl (isReg_in c4_1) ?_
        refine g_goto (tgt := 52) C dX2_at_24 (by decide) ?_
        exact hR _ _ _ _ () dX2_at_52 (by rw [mAt, c4_1, cond_true, if_pos c9_2, if_neg c15_3] <;> rfl) (rfl)
    · skip
      refine g_iconst (v := (-1)) C dX2_at_12 (by decide) ?_
      exact hR _ _ _ _ () dX2_at_13 (by rw [mAt, c4_1, cond_true, if_neg c9_2] <;> rfl) (rfl)

set_option maxHeartbeats 600000 in
set_option maxRecDepth 100000 in
theorem kX2_value (K : KT) (bd : Nat → Nat) (M : MSt) (X : va_W) (s : Int32) (w : Int32) (hd : HD M) : ∀ lau : Launch, Con lau yX2_value cX2_value 6 (some .int) 2 49 K (mW K bd M X) (fun _ : Unit => mW K bd M X) [.ref (bd 0), .int s, .int w] (some (.int (mVal M s w))) := by
  refine conI (by decide) (Nat.le_of_ble_eq_true rfl) (fun E C hR => ?_)
  show G E K 0 0 (mW K bd M X) [(0, .ref (bd 0)), (1, .int s), (2, .int w)] 0 []
  refine g_iload_n (i := 1) C dX2_value_0 rfl rfl ?_
  refine g_callS (av := [.int s]) C dX2_value_1 ln_X2_52 mf_X2_isRegister (kX2_isRegister K (mW K bd M X) s) rfl rfl (Nat.le_of_ble_eq_true rfl) ⟨Nat.le_of_ble_eq_true rfl, Nat.le_of_ble_eq_true rfl⟩ ⟨Nat.zero_le _, Nat.zero_le _⟩ (fun _ => ?_)
  refine g_bz_eq (tgt := 17) C dX2_value_4 (by decide) (fun c4_1 => ?_) (fun c4_1 => ?_)
  · skip
    refine g_ldc (v := (-1000000000)) C dX2_value_17 kc_X2_72 ?_
    exact hR _ _ _ _ () dX2_value_19 (by rw [mVal, c4_1, cond_false] <;> rfl) (rfl)
  · skip
    refine g_iload_n (i := 2) C dX2_value_7 rfl rfl ?_
    refine g_i2l (v := Int32.toInt64 w) C dX2_value_8 rfl ?_
    refine g_lconst (v := 0) C dX2_value_9 (by decide) ?_
    refine g_lconst (v := 1) C dX2_value_10 (by decide) ?_
    refine g_callS (av := [.long (Int32.toInt64 w), .long 0, .long 1]) C dX2_value_11 ln_X2_32 mf_X2_in (kX2_in K (mW K bd M X) (Int32.toInt64 w) 0 1) rfl rfl (Nat.le_of_ble_eq_true rfl) ⟨Nat.le_of_ble_eq_true rfl, Nat.le_of_ble_eq_true rfl⟩ ⟨Nat.zero_le _, Nat.zero_le _⟩ (fun _ => ?_)
    refine g_bz_ne (tgt := 20) C dX2_value_14 (by decide) (fun c14_2 => ?_) (fun c14_2 => ?_)
    · skip
      refine g_aload_n (i := 0) C dX2_value_20 rfl rfl ?_
      refine g_iload_n (i := 1) C dX2_value_21 rfl rfl ?_
      refine g_callV (av := [.int s]) C dX2_value_22 ln_X2_73 mf_X2_worthOf 0 rfl rfl (kX2_worthOf K bd M X s c4_1 (HD.r hd c4_1)) rfl rfl (Nat.le_of_ble_eq_true rfl) ⟨Nat.le_of_ble_eq_true rfl, Nat.le_of_ble_eq_true rfl⟩ ⟨Nat.zero_le _, Nat.zero_le _⟩ (fun _ => ?_)
      refine g_lstore_n (i := 3) (lv2 := [(0, .ref (bd 0)), (1, .int s), (2, .int w), (3, .long (wO M s.toNatClampNeg))]) C dX2_value_25 rfl (by decide) rfl ?_
      refine g_bipush (v := 24) C dX2_value_26 (by decide) ?_
      refine g_istore (lv2 := [(0, .ref (bd 0)), (1, .int s), (2, .int w), (3, .long (wO M s.toNatClampNeg)), (5, .int 24)]) C dX2_value_28 (by decide) rfl ?_
      have lo : ∀ (fuel : Nat) (j : Nat) (u : Int64), j ≤ 24 → j < fuel → rdM j u = rdM 24 (wO M s.toNatClampNeg) → G E K 0 0 (mW K bd M X) [(0, .ref (bd 0)), (1, .int s), (2, .int w), (3, .long u), (5, .int (nI j))] 30 [] := by
        intro fuel
        induction fuel with
        | zero =>
          intro j u hlo0 hlo1 hlo2
          omega
        | succ fuel ihlo =>
          intro j u hlo0 hlo1 hlo2
          refine g_iload C dX2_value_30 rfl ?_
          refine g_if_le (tgt := 57) C dX2_value_32 (by decide) (fun c32_3 => ?_) (fun c32_3 => ?_)
          · skip
            have ej : j = 0 := nz0 c32_3 (by omega)
            subst ej
            have er : rdM 24 (wO M s.toNatClampNeg) = (u, 0) := hlo2.symm
            refine g_iload_n (i := 2) C dX2_value_57 rfl rfl ?_
            refine g_if_ne (tgt := 66) C dX2_value_58 (by decide) (fun c58_4 => ?_) (fun c58_4 => ?_)
            · skip
              refine g_iload C dX2_value_66 rfl ?_
              exact hR _ _ _ _ () dX2_value_68 (by rw [mVal, c4_1, cond_true, c14_2, cond_true, er, if_neg c58_4] <;> rfl) (rfl)
            · skip
              refine g_lload_n (i := 3) C dX2_value_61 rfl rfl ?_
              refine g_l2i (v := Int64.toInt32 u) C dX2_value_62 rfl ?_
              refine g_goto (tgt := 68) C dX2_value_63 (by decide) ?_
              exact hR _ _ _ _ () dX2_value_68 (by rw [mVal, c4_1, cond_true, c14_2, cond_true, er, if_pos c58_4] <;> rfl) (rfl)
          · skip
            obtain ⟨j2, rfl⟩ := nz c32_3
            refine g_lload_n (i := 3) C dX2_value_35 rfl rfl ?_
            refine g_ldc2 (v := 2) C dX2_value_36 kc_X2_38 ?_
            refine g_lrem C dX2_value_39 (by decide) ?_
            refine g_lconst (v := 0) C dX2_value_40 (by decide) ?_
            refine g_lcmp_ne (tgt := 57) C dX2_value_41 dX2_value_42 (by decide) (fun c41_5 => ?_) (fun c41_5 => ?_)
            · skip
              have er : rdM 24 (wO M s.toNatClampNeg) = (u, j2 + 1) := by rw [← hlo2, rdM, if_neg c41_5]
              refine g_iload_n (i := 2) C dX2_value_57 rfl rfl ?_
              refine g_if_ne (tgt := 66) C dX2_value_58 (by decide) (fun c58_6 => ?_) (fun c58_6 => ?_)
              · skip
                refine g_iload C dX2_value_66 rfl ?_
                exact hR _ _ _ _ () dX2_value_68 (by rw [mVal, c4_1, cond_true, c14_2, cond_true, er, if_neg c58_6] <;> rfl) (rfl)
              · skip
                refine g_lload_n (i := 3) C dX2_value_61 rfl rfl ?_
                refine g_l2i (v := Int64.toInt32 u) C dX2_value_62 rfl ?_
                refine g_goto (tgt := 68) C dX2_value_63 (by decide) ?_
                exact hR _ _ _ _ () dX2_value_68 (by rw [mVal, c4_1, cond_true, c14_2, cond_true, er, if_pos c58_6] <;> rfl) (rfl)
            · skip
              refine g_lload_n (i := 3) C dX2_value_45 rfl rfl ?_
              refine g_ldc2 (v := 2) C dX2_value_46 kc_X2_38 ?_
              refine g_ldiv C dX2_value_49 (by decide) ?_
              refine g_lstore_n (i := 3) (lv2 := [(0, .ref (bd 0)), (1, .int s), (2, .int w), (3, .long (u / 2)), (5, .int (nI (j2 + 1)))]) C dX2_value_50 rfl (by decide) rfl ?_
              refine g_iinc (v := nI j2) (lv2 := [(0, .ref (bd 0)), (1, .int s), (2, .int w), (3, .long (u / 2)), (5, .int (nI j2))]) C dX2_value_51 rfl (decS j2) (by decide) rfl ?_
              refine g_goto (tgt := 30) C dX2_value_54 (by decide) ?_
              exact g_lvs [0, 1, 2, 3, 4] rfl (ihlo j2 _ (by omega) (by omega) (by rw [← hlo2, rdM, if_pos c41_5]))
      exact g_lvs [0, 1, 2, 3, 4] rfl (lo 25 24 _ (Nat.le_refl _) (by omega) rfl)
    · skip
      refine g_ldc (v := (-1000000000)) C dX2_value_17 kc_X2_72 ?_
      exact hR _ _ _ _ () dX2_value_19 (by rw [mVal, c4_1, cond_true, c14_2, cond_false] <;> rfl) (rfl)

set_option maxHeartbeats 600000 in
set_option maxRecDepth 100000 in
theorem kX2_against (K : KT) (bd : Nat → Nat) (M : MSt) (X : va_W) (s : Int32) (t : Int32) (hd : HD M) : ∀ lau : Launch, Con lau yX2_against cX2_against 3 (some .int) 2 49 K (mW K bd M X) (fun _ : Unit => mW K bd M X) [.ref (bd 0), .int s, .int t] (some (.int (mAgn M s t))) := by
  refine conI (by decide) (Nat.le_of_ble_eq_true rfl) (fun E C hR => ?_)
  show G E K 0 0 (mW K bd M X) [(0, .ref (bd 0)), (1, .int s), (2, .int t)] 0 []
  refine g_iload_n (i := 1) C dX2_against_0 rfl rfl ?_
  refine g_callS (av := [.int s]) C dX2_against_1 ln_X2_52 mf_X2_isRegister (kX2_isRegister K (mW K bd M X) s) rfl rfl (Nat.le_of_ble_eq_true rfl) ⟨Nat.le_of_ble_eq_true rfl, Nat.le_of_ble_eq_true rfl⟩ ⟨Nat.zero_le _, Nat.zero_le _⟩ (fun _ => ?_)
  refine g_bz_eq (tgt := 30) C dX2_against_4 (by decide) (fun c4_1 => ?_) (fun c4_1 => ?_)
  · skip
    refine g_bipush (v := (-9)) C dX2_against_30 (by decide) ?_
    exact hR _ _ _ _ () dX2_against_32 (by rw [mAgn, c4_1, cond_false] <;> rfl) (rfl)
  · skip
    refine g_iload_n (i := 2) C dX2_against_7 rfl rfl ?_
    refine g_callS (av := [.int t]) C dX2_against_8 ln_X2_52 mf_X2_isRegister (kX2_isRegister K (mW K bd M X) t) rfl rfl (Nat.le_of_ble_eq_true rfl) ⟨Nat.le_of_ble_eq_true rfl, Nat.le_of_ble_eq_true rfl⟩ ⟨Nat.zero_le _, Nat.zero_le _⟩ (fun _ => ?_)
    refine g_bz_eq (tgt := 30) C dX2_against_11 (by decide) (fun c11_2 => ?_) (fun c11_2 => ?_)
    · skip
      refine g_bipush (v := (-9)) C dX2_against_30 (by decide) ?_
      exact hR _ _ _ _ () dX2_against_32 (by rw [mAgn, c4_1, cond_true, c11_2, cond_false] <;> rfl) (rfl)
    · skip
      refine g_aload_n (i := 0) C dX2_against_14 rfl rfl ?_
      refine g_iload_n (i := 1) C dX2_against_15 rfl rfl ?_
      refine g_callV (av := [.int s]) C dX2_against_16 ln_X2_73 mf_X2_worthOf 0 rfl rfl (kX2_worthOf K bd M X s c4_1 (HD.r hd c4_1)) rfl rfl (Nat.le_of_ble_eq_true rfl) ⟨Nat.le_of_ble_eq_true rfl, Nat.le_of_ble_eq_true rfl⟩ ⟨Nat.zero_le _, Nat.zero_le _⟩ (fun _ => ?_)
      refine g_aload_n (i := 0) C dX2_against_19 rfl rfl ?_
      refine g_iload_n (i := 2) C dX2_against_20 rfl rfl ?_
      refine g_callV (av := [.int t]) C dX2_against_21 ln_X2_73 mf_X2_worthOf 0 rfl rfl (kX2_worthOf K bd M X t c11_2 (HD.r hd c11_2)) rfl rfl (Nat.le_of_ble_eq_true rfl) ⟨Nat.le_of_ble_eq_true rfl, Nat.le_of_ble_eq_true rfl⟩ ⟨Nat.zero_le _, Nat.zero_le _⟩ (fun _ => ?_)
      refine g_callS (av := [.long (wO M s.toNatClampNeg), .long (wO M t.toNatClampNeg)]) C dX2_against_24 ln_X2_77 mf_X2_compare (kX2_compare K (mW K bd M X) (wO M s.toNatClampNeg) (wO M t.toNatClampNeg)) rfl rfl (Nat.le_of_ble_eq_true rfl) ⟨Nat.le_of_ble_eq_true rfl, Nat.le_of_ble_eq_true rfl⟩ ⟨Nat.zero_le _, Nat.zero_le _⟩ (fun _ => ?_)
      refine g_goto (tgt := 32) C dX2_against_27 (by decide) ?_
      exact hR _ _ _ _ () dX2_against_32 (by rw [mAgn, c4_1, cond_true, c11_2, cond_true] <;> rfl) (rfl)

set_option maxHeartbeats 600000 in
set_option maxRecDepth 100000 in
theorem kX2_work (K : KT) (bd : Nat → Nat) (M : MSt) (X : va_W) (s : Int32) (how : Int32) (t : Int32) (u : Int32) (hd : HD M) : ∀ lau : Launch, Con lau yX2_work cX2_work 9 (some .int) 2 58 K (mW K bd M X) (fun _ : Unit => mW K bd ((mWork M s how t u).2) X) [.ref (bd 0), .int s, .int how, .int t, .int u] (some (.int ((mWork M s how t u).1))) := by
  refine conI (by decide) (Nat.le_of_ble_eq_true rfl) (fun E C hR => ?_)
  show G E K 0 0 (mW K bd M X) [(0, .ref (bd 0)), (1, .int s), (2, .int how), (3, .int t), (4, .int u)] 0 []
  refine g_iload_n (i := 1) C dX2_work_0 rfl rfl ?_
  refine g_callS (av := [.int s]) C dX2_work_1 ln_X2_52 mf_X2_isRegister (kX2_isRegister K (mW K bd M X) s) rfl rfl (Nat.le_of_ble_eq_true rfl) ⟨Nat.le_of_ble_eq_true rfl, Nat.le_of_ble_eq_true rfl⟩ ⟨Nat.zero_le _, Nat.zero_le _⟩ (fun _ => ?_)
  refine g_bz_eq (tgt := 39) C dX2_work_4 (by decide) (fun c4_1 => ?_) (fun c4_1 => ?_)
  · skip
    refine g_iconst (v := (-1)) C dX2_work_39 (by decide) ?_
    exact hR _ _ _ _ () dX2_work_40 (by rw [mWork, c4_1, cond_false] <;> rfl) (by show _ = mW K bd (mWork M s how t u).2 X; rw [mWork, c4_1, cond_false] <;> rfl)
  · skip
    refine g_iload_n (i := 2) C dX2_work_7 rfl rfl ?_
    refine g_i2l (v := Int32.toInt64 how) C dX2_work_8 rfl ?_
    refine g_lconst (v := 0) C dX2_work_9 (by decide) ?_
    refine g_ldc2 (v := 3) C dX2_work_10 kc_X2_81 ?_
    refine g_callS (av := [.long (Int32.toInt64 how), .long 0, .long 3]) C dX2_work_13 ln_X2_32 mf_X2_in (kX2_in K (mW K bd M X) (Int32.toInt64 how) 0 3) rfl rfl (Nat.le_of_ble_eq_true rfl) ⟨Nat.le_of_ble_eq_true rfl, Nat.le_of_ble_eq_true rfl⟩ ⟨Nat.zero_le _, Nat.zero_le _⟩ (fun _ => ?_)
    refine g_bz_eq (tgt := 39) C dX2_work_16 (by decide) (fun c16_2 => ?_) (fun c16_2 => ?_)
    · skip
      refine g_iconst (v := (-1)) C dX2_work_39 (by decide) ?_
      exact hR _ _ _ _ () dX2_work_40 (by rw [mWork, c4_1, cond_true, c16_2, cond_false] <;> rfl) (by show _ = mW K bd (mWork M s how t u).2 X; rw [mWork, c4_1, cond_true, c16_2, cond_false] <;> rfl)
    · skip
      refine g_iload_n (i := 3) C dX2_work_19 rfl rfl ?_
      refine g_callS (av := [.int t]) C dX2_work_20 ln_X2_52 mf_X2_isRegister (kX2_isRegister K (mW K bd M X) t) rfl rfl (Nat.le_of_ble_eq_true rfl) ⟨Nat.le_of_ble_eq_true rfl, Nat.le_of_ble_eq_true rfl⟩ ⟨Nat.zero_le _, Nat.zero_le _⟩ (fun _ => ?_)
      refine g_bz_eq (tgt := 39) C dX2_work_23 (by decide) (fun c23_3 => ?_) (fun c23_3 => ?_)
      · skip
        refine g_iconst (v := (-1)) C dX2_work_39 (by decide) ?_
        exact hR _ _ _ _ () dX2_work_40 (by rw [mWork, c4_1, cond_true, c16_2, cond_true, c23_3, cond_false] <;> rfl) (by show _ = mW K bd (mWork M s how t u).2 X; rw [mWork, c4_1, cond_true, c16_2, cond_true, c23_3, cond_false] <;> rfl)
      · skip
        refine g_iload_n (i := 2) C dX2_work_26 rfl rfl ?_
        refine g_iconst (v := 3) C dX2_work_27 (by decide) ?_
        refine g_icmp_ge (tgt := 41) C dX2_work_28 (by decide) (fun c28_4 => ?_) (fun c28_4 => ?_)
        · skip
          refine g_aload_n (i := 0) C dX2_work_41 rfl rfl ?_
          refine g_iload_n (i := 3) C dX2_work_42 rfl rfl ?_
          refine g_callV (av := [.int t]) C dX2_work_43 ln_X2_73 mf_X2_worthOf 0 rfl rfl (kX2_worthOf K bd M X t c23_3 (HD.r hd c23_3)) rfl rfl (Nat.le_of_ble_eq_true rfl) ⟨Nat.le_of_ble_eq_true rfl, Nat.le_of_ble_eq_true rfl⟩ ⟨Nat.zero_le _, Nat.zero_le _⟩ (fun _ => ?_)
          refine g_lstore (lv2 := [(0, .ref (bd 0)), (1, .int s), (2, .int how), (3, .int t), (4, .int u), (5, .long (wO M t.toNatClampNeg))]) C dX2_work_46 (by decide) rfl ?_
          refine g_iload_n (i := 2) C dX2_work_48 rfl rfl ?_
          refine g_iconst (v := 3) C dX2_work_49 (by decide) ?_
          refine g_icmp_ge (tgt := 62) C dX2_work_50 (by decide) (fun c50_5 => ?_) (fun c50_5 => absurd c28_4 c50_5)
          refine g_lconst (v := 0) C dX2_work_62 (by decide) ?_
          refine g_lstore (lv2 := [(0, .ref (bd 0)), (1, .int s), (2, .int how), (3, .int t), (4, .int u), (5, .long (wO M t.toNatClampNeg)), (7, .long 0)]) C dX2_work_63 (by decide) rfl ?_
          refine g_iload_n (i := 2) C dX2_work_65 rfl rfl ?_
          have h3 := how3b c16_2 c28_4
          refine g_tout (tgt := 143) C dX2_work_66 (by rw [h3]; decide) (by decide) ?_
          refine g_aload_n (i := 0) C dX2_work_143 rfl rfl ?_
          refine g_iload_n (i := 1) C dX2_work_144 rfl rfl ?_
          refine g_aload_n (i := 0) C dX2_work_145 rfl rfl ?_
          refine g_lload C dX2_work_146 rfl ?_
          refine g_lneg C dX2_work_148 ?_
          refine g_bipush (v := 24) C dX2_work_149 (by decide) ?_
          refine g_callV (av := [.long (-(wO M t.toNatClampNeg)), .int 24]) C dX2_work_151 ln_X2_64 mf_X2_has 0 rfl rfl (kX2_has K bd M X (-(wO M t.toNatClampNeg)) 24 (by decide)) rfl rfl (Nat.le_of_ble_eq_true rfl) ⟨Nat.le_of_ble_eq_true rfl, Nat.le_of_ble_eq_true rfl⟩ ⟨Nat.zero_le _, Nat.zero_le _⟩ (fun _ => ?_)
          refine g_callV (av := [.int s, .int (bz (mHas M (-(wO M t.toNatClampNeg)) 24).1)]) C dX2_work_154 ln_X2_68 mf_X2_keeps 0 rfl rfl (kX2_keeps K bd ((mHas M (-(wO M t.toNatClampNeg)) 24).2) X s ((mHas M (-(wO M t.toNatClampNeg)) 24).1) c4_1) rfl rfl (Nat.le_of_ble_eq_true rfl) ⟨Nat.le_of_ble_eq_true rfl, Nat.le_of_ble_eq_true rfl⟩ ⟨Nat.zero_le _, Nat.zero_le _⟩ (fun _ => ?_)
          exact hR _ _ _ _ () dX2_work_157 (by rw [mWork, c4_1, cond_true, c16_2, cond_true, c23_3, cond_true, if_pos c28_4] <;> rfl) (by show _ = mW K bd (mWork M s how t u).2 X; rw [mWork, c4_1, cond_true, c16_2, cond_true, c23_3, cond_true, if_pos c28_4] <;> rfl)
        · skip
          refine g_iload C dX2_work_31 rfl ?_
          refine g_callS (av := [.int u]) C dX2_work_33 ln_X2_52 mf_X2_isRegister (kX2_isRegister K (mW K bd M X) u) rfl rfl (Nat.le_of_ble_eq_true rfl) ⟨Nat.le_of_ble_eq_true rfl, Nat.le_of_ble_eq_true rfl⟩ ⟨Nat.zero_le _, Nat.zero_le _⟩ (fun _ => ?_)
          refine g_bz_ne (tgt := 41) C dX2_work_36 (by decide) (fun c36_6 => ?_) (fun c36_6 => ?_)
          · skip
            refine g_aload_n (i := 0) C dX2_work_41 rfl rfl ?_
            refine g_iload_n (i := 3) C dX2_work_42 rfl rfl ?_
            refine g_callV (av := [.int t]) C dX2_work_43 ln_X2_73 mf_X2_worthOf 0 rfl rfl (kX2_worthOf K bd M X t c23_3 (HD.r hd c23_3)) rfl rfl (Nat.le_of_ble_eq_true rfl) ⟨Nat.le_of_ble_eq_true rfl, Nat.le_of_ble_eq_true rfl⟩ ⟨Nat.zero_le _, Nat.zero_le _⟩ (fun _ => ?_)
            refine g_lstore (lv2 := [(0, .ref (bd 0)), (1, .int s), (2, .int how), (3, .int t), (4, .int u), (5, .long (wO M t.toNatClampNeg))]) C dX2_work_46 (by decide) rfl ?_
            refine g_iload_n (i := 2) C dX2_work_48 rfl rfl ?_
            refine g_iconst (v := 3) C dX2_work_49 (by decide) ?_
            refine g_icmp_ge (tgt := 62) C dX2_work_50 (by decide) (fun c50_7 => absurd c50_7 c28_4) (fun c50_7 => ?_)
            refine g_aload_n (i := 0) C dX2_work_53 rfl rfl ?_
            refine g_iload C dX2_work_54 rfl ?_
            refine g_callV (av := [.int u]) C dX2_work_56 ln_X2_73 mf_X2_worthOf 0 rfl rfl (kX2_worthOf K bd M X u c36_6 (HD.r hd c36_6)) rfl rfl (Nat.le_of_ble_eq_true rfl) ⟨Nat.le_of_ble_eq_true rfl, Nat.le_of_ble_eq_true rfl⟩ ⟨Nat.zero_le _, Nat.zero_le _⟩ (fun _ => ?_)
            refine g_goto (tgt := 63) C dX2_work_59 (by decide) ?_
            refine g_lstore (lv2 := [(0, .ref (bd 0)), (1, .int s), (2, .int how), (3, .int t), (4, .int u), (5, .long (wO M t.toNatClampNeg)), (7, .long (wO M u.toNatClampNeg))]) C dX2_work_63 (by decide) rfl ?_
            refine g_iload_n (i := 2) C dX2_work_65 rfl rfl ?_
            rcases how3 c16_2 c28_4 with h0 | ⟨n0, h1⟩ | ⟨n0, n1, h2⟩
            · skip
              refine g_tin (tgt := 92) C dX2_work_66 (by rw [h0]; decide) (by rw [h0]; decide) (by rw [h0]; rfl) (by decide) ?_
              refine g_aload_n (i := 0) C dX2_work_92 rfl rfl ?_
              refine g_iload_n (i := 1) C dX2_work_93 rfl rfl ?_
              refine g_aload_n (i := 0) C dX2_work_94 rfl rfl ?_
              refine g_lload C dX2_work_95 rfl ?_
              refine g_lload C dX2_work_97 rfl ?_
              refine g_ladd C dX2_work_99 ?_
              refine g_bipush (v := 24) C dX2_work_100 (by decide) ?_
              refine g_callV (av := [.long ((wO M t.toNatClampNeg) + (wO M u.toNatClampNeg)), .int 24]) C dX2_work_102 ln_X2_64 mf_X2_has 0 rfl rfl (kX2_has K bd M X ((wO M t.toNatClampNeg) + (wO M u.toNatClampNeg)) 24 (by decide)) rfl rfl (Nat.le_of_ble_eq_true rfl) ⟨Nat.le_of_ble_eq_true rfl, Nat.le_of_ble_eq_true rfl⟩ ⟨Nat.zero_le _, Nat.zero_le _⟩ (fun _ => ?_)
              refine g_callV (av := [.int s, .int (bz (mHas M ((wO M t.toNatClampNeg) + (wO M u.toNatClampNeg)) 24).1)]) C dX2_work_105 ln_X2_68 mf_X2_keeps 0 rfl rfl (kX2_keeps K bd ((mHas M ((wO M t.toNatClampNeg) + (wO M u.toNatClampNeg)) 24).2) X s ((mHas M ((wO M t.toNatClampNeg) + (wO M u.toNatClampNeg)) 24).1) c4_1) rfl rfl (Nat.le_of_ble_eq_true rfl) ⟨Nat.le_of_ble_eq_true rfl, Nat.le_of_ble_eq_true rfl⟩ ⟨Nat.zero_le _, Nat.zero_le _⟩ (fun _ => ?_)
              exact hR _ _ _ _ () dX2_work_108 (by rw [mWork, c4_1, cond_true, c16_2, cond_true, c23_3, cond_true, if_neg c28_4, c36_6, cond_true, if_pos h0] <;> rfl) (by show _ = mW K bd (mWork M s how t u).2 X; rw [mWork, c4_1, cond_true, c16_2, cond_true, c23_3, cond_true, if_neg c28_4, c36_6, cond_true, if_pos h0] <;> rfl)
            · skip
              refine g_tin (tgt := 109) C dX2_work_66 (by rw [h1]; decide) (by rw [h1]; decide) (by rw [h1]; rfl) (by decide) ?_
              refine g_aload_n (i := 0) C dX2_work_109 rfl rfl ?_
              refine g_iload_n (i := 1) C dX2_work_110 rfl rfl ?_
              refine g_aload_n (i := 0) C dX2_work_111 rfl rfl ?_
              refine g_lload C dX2_work_112 rfl ?_
              refine g_lload C dX2_work_114 rfl ?_
              refine g_lsub C dX2_work_116 ?_
              refine g_bipush (v := 24) C dX2_work_117 (by decide) ?_
              refine g_callV (av := [.long ((wO M t.toNatClampNeg) - (wO M u.toNatClampNeg)), .int 24]) C dX2_work_119 ln_X2_64 mf_X2_has 0 rfl rfl (kX2_has K bd M X ((wO M t.toNatClampNeg) - (wO M u.toNatClampNeg)) 24 (by decide)) rfl rfl (Nat.le_of_ble_eq_true rfl) ⟨Nat.le_of_ble_eq_true rfl, Nat.le_of_ble_eq_true rfl⟩ ⟨Nat.zero_le _, Nat.zero_le _⟩ (fun _ => ?_)
              refine g_callV (av := [.int s, .int (bz (mHas M ((wO M t.toNatClampNeg) - (wO M u.toNatClampNeg)) 24).1)]) C dX2_work_122 ln_X2_68 mf_X2_keeps 0 rfl rfl (kX2_keeps K bd ((mHas M ((wO M t.toNatClampNeg) - (wO M u.toNatClampNeg)) 24).2) X s ((mHas M ((wO M t.toNatClampNeg) - (wO M u.toNatClampNeg)) 24).1) c4_1) rfl rfl (Nat.le_of_ble_eq_true rfl) ⟨Nat.le_of_ble_eq_true rfl, Nat.le_of_ble_eq_true rfl⟩ ⟨Nat.zero_le _, Nat.zero_le _⟩ (fun _ => ?_)
              exact hR _ _ _ _ () dX2_work_125 (by rw [mWork, c4_1, cond_true, c16_2, cond_true, c23_3, cond_true, if_neg c28_4, c36_6, cond_true, if_neg n0, if_pos h1] <;> rfl) (by show _ = mW K bd (mWork M s how t u).2 X; rw [mWork, c4_1, cond_true, c16_2, cond_true, c23_3, cond_true, if_neg c28_4, c36_6, cond_true, if_neg n0, if_pos h1] <;> rfl)
            · skip
              refine g_tin (tgt := 126) C dX2_work_66 (by rw [h2]; decide) (by rw [h2]; decide) (by rw [h2]; rfl) (by decide) ?_
              refine g_aload_n (i := 0) C dX2_work_126 rfl rfl ?_
              refine g_iload_n (i := 1) C dX2_work_127 rfl rfl ?_
              refine g_aload_n (i := 0) C dX2_work_128 rfl rfl ?_
              refine g_lload C dX2_work_129 rfl ?_
              refine g_lload C dX2_work_131 rfl ?_
              refine g_lmul C dX2_work_133 ?_
              refine g_bipush (v := 48) C dX2_work_134 (by decide) ?_
              refine g_callV (av := [.long ((wO M t.toNatClampNeg) * (wO M u.toNatClampNeg)), .int 48]) C dX2_work_136 ln_X2_64 mf_X2_has 0 rfl rfl (kX2_has K bd M X ((wO M t.toNatClampNeg) * (wO M u.toNatClampNeg)) 48 (by decide)) rfl rfl (Nat.le_of_ble_eq_true rfl) ⟨Nat.le_of_ble_eq_true rfl, Nat.le_of_ble_eq_true rfl⟩ ⟨Nat.zero_le _, Nat.zero_le _⟩ (fun _ => ?_)
              refine g_callV (av := [.int s, .int (bz (mHas M ((wO M t.toNatClampNeg) * (wO M u.toNatClampNeg)) 48).1)]) C dX2_work_139 ln_X2_68 mf_X2_keeps 0 rfl rfl (kX2_keeps K bd ((mHas M ((wO M t.toNatClampNeg) * (wO M u.toNatClampNeg)) 48).2) X s ((mHas M ((wO M t.toNatClampNeg) * (wO M u.toNatClampNeg)) 48).1) c4_1) rfl rfl (Nat.le_of_ble_eq_true rfl) ⟨Nat.le_of_ble_eq_true rfl, Nat.le_of_ble_eq_true rfl⟩ ⟨Nat.zero_le _, Nat.zero_le _⟩ (fun _ => ?_)
              exact hR _ _ _ _ () dX2_work_142 (by rw [mWork, c4_1, cond_true, c16_2, cond_true, c23_3, cond_true, if_neg c28_4, c36_6, cond_true, if_neg n0, if_neg n1] <;> rfl) (by show _ = mW K bd (mWork M s how t u).2 X; rw [mWork, c4_1, cond_true, c16_2, cond_true, c23_3, cond_true, if_neg c28_4, c36_6, cond_true, if_neg n0, if_neg n1] <;> rfl)
          · skip
            refine g_iconst (v := (-1)) C dX2_work_39 (by decide) ?_
            exact hR _ _ _ _ () dX2_work_40 (by rw [mWork, c4_1, cond_true, c16_2, cond_true, c23_3, cond_true, if_neg c28_4, c36_6, cond_false] <;> rfl) (by show _ = mW K bd (mWork M s how t u).2 X; rw [mWork, c4_1, cond_true, c16_2, cond_true, c23_3, cond_true, if_neg c28_4, c36_6, cond_false] <;> rfl)

set_option maxHeartbeats 600000 in
set_option maxRecDepth 100000 in
theorem kX2_pair (K : KT) (bd : Nat → Nat) (M : MSt) (X : va_W) (w : Int32) : ∀ lau : Launch, Con lau yX2_pair cX2_pair 2 (some .int) 0 0 K (mW K bd M X) (fun _ : Unit => mW K bd M X) [.ref (bd 0), .int w] (some (.int (mPair M w))) := by
  refine conI (by decide) (Nat.le_of_ble_eq_true rfl) (fun E C hR => ?_)
  show G E K 0 0 (mW K bd M X) [(0, .ref (bd 0)), (1, .int w)] 0 []
  refine g_iload_n (i := 1) C dX2_pair_0 rfl rfl ?_
  refine g_if_ne (tgt := 11) C dX2_pair_1 (by decide) (fun c1_1 => ?_) (fun c1_1 => ?_)
  · skip
    refine g_iload_n (i := 1) C dX2_pair_11 rfl rfl ?_
    refine g_iconst (v := 1) C dX2_pair_12 (by decide) ?_
    refine g_icmp_ne (tgt := 23) C dX2_pair_13 (by decide) (fun c13_2 => ?_) (fun c13_2 => ?_)
    · skip
      refine g_iconst (v := (-1)) C dX2_pair_23 (by decide) ?_
      exact hR _ _ _ _ () dX2_pair_24 (by rw [mPair, if_neg c1_1, if_neg c13_2] <;> rfl) (rfl)
    · skip
      refine g_aload_n (i := 0) C dX2_pair_16 rfl rfl ?_
      refine g_get C dX2_pair_17 fl_X2_20 0 rfl rfl ?_
      refine g_goto (tgt := 24) C dX2_pair_20 (by decide) ?_
      exact hR _ _ _ _ () dX2_pair_24 (by rw [mPair, if_neg c1_1, if_pos c13_2] <;> rfl) (rfl)
  · skip
    refine g_aload_n (i := 0) C dX2_pair_4 rfl rfl ?_
    refine g_get C dX2_pair_5 fl_X2_16 0 rfl rfl ?_
    refine g_goto (tgt := 24) C dX2_pair_8 (by decide) ?_
    exact hR _ _ _ _ () dX2_pair_24 (by rw [mPair, if_pos c1_1] <;> rfl) (rfl)
end
