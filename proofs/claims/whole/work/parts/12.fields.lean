set_option maxRecDepth 20000 in
theorem fl_X0_9 : FL false RX0 9 0 0 := ⟨RX0, TX0, 1, rfl, by decide, mw 52 (by rfl) rfl, fx_X0⟩
set_option maxRecDepth 20000 in
theorem fl_X1_120 : FL true RX1 120 0 0 := ⟨RX0, TX0, 1, rfl, by decide, mwN 53 (by rfl) rfl, fx_X0⟩
set_option maxRecDepth 20000 in
theorem fl_X1_9 : FL false RX1 9 1 0 := ⟨RX1, TX1, 8, rfl, by decide, mw 59 (by rfl) rfl, fx_X1⟩
set_option maxRecDepth 20000 in
theorem fl_X1_13 : FL false RX1 13 1 1 := ⟨RX1, TX1, 8, rfl, by decide, mw 60 (by rfl) rfl, fx_X1⟩
set_option maxRecDepth 20000 in
theorem fl_X1_16 : FL false RX1 16 1 2 := ⟨RX1, TX1, 8, rfl, by decide, mw 61 (by rfl) rfl, fx_X1⟩
set_option maxRecDepth 20000 in
theorem fl_X1_20 : FL false RX1 20 1 3 := ⟨RX1, TX1, 8, rfl, by decide, mw 62 (by rfl) rfl, fx_X1⟩
set_option maxRecDepth 20000 in
theorem fp_X1_20 : FP RX1 20 1 3 .int := ⟨RX1, TX1, 8, rfl, by decide, mw 62 (by rfl) rfl, fx_X1, ⟨tyX1, tyX1_ok⟩, nmX1, rfl, by decide +kernel⟩
set_option maxRecDepth 20000 in
theorem fl_X1_24 : FL false RX1 24 1 4 := ⟨RX1, TX1, 8, rfl, by decide, mw 63 (by rfl) rfl, fx_X1⟩
set_option maxRecDepth 20000 in
theorem fp_X1_24 : FP RX1 24 1 4 .int := ⟨RX1, TX1, 8, rfl, by decide, mw 63 (by rfl) rfl, fx_X1, ⟨tyX1, tyX1_ok⟩, nmX1, rfl, by decide +kernel⟩
set_option maxRecDepth 20000 in
theorem fl_X1_29 : FL false RX1 29 1 5 := ⟨RX1, TX1, 8, rfl, by decide, mw 64 (by rfl) rfl, fx_X1⟩
set_option maxRecDepth 20000 in
theorem fl_X1_34 : FL false RX1 34 1 6 := ⟨RX1, TX1, 8, rfl, by decide, mw 65 (by rfl) rfl, fx_X1⟩
set_option maxRecDepth 20000 in
theorem fl_X1_38 : FL false RX1 38 1 7 := ⟨RX1, TX1, 8, rfl, by decide, mw 66 (by rfl) rfl, fx_X1⟩
set_option maxRecDepth 20000 in
theorem fl_X2_7 : FL false RX2 7 2 0 := ⟨RX2, TX2, 10, rfl, by decide, mw 332 (by rfl) rfl, fx_X2⟩
set_option maxRecDepth 20000 in
theorem fl_X2_13 : FL false RX2 13 2 1 := ⟨RX2, TX2, 10, rfl, by decide, mw 333 (by rfl) rfl, fx_X2⟩
set_option maxRecDepth 20000 in
theorem fl_X2_16 : FL false RX2 16 2 2 := ⟨RX2, TX2, 10, rfl, by decide, mw 334 (by rfl) rfl, fx_X2⟩
set_option maxRecDepth 20000 in
theorem fp_X2_16 : FP RX2 16 2 2 .int := ⟨RX2, TX2, 10, rfl, by decide, mw 334 (by rfl) rfl, fx_X2, ⟨tyX2, tyX2_ok⟩, nmX2, rfl, by decide +kernel⟩
set_option maxRecDepth 20000 in
theorem fl_X2_20 : FL false RX2 20 2 3 := ⟨RX2, TX2, 10, rfl, by decide, mw 335 (by rfl) rfl, fx_X2⟩
set_option maxRecDepth 20000 in
theorem fp_X2_20 : FP RX2 20 2 3 .int := ⟨RX2, TX2, 10, rfl, by decide, mw 335 (by rfl) rfl, fx_X2, ⟨tyX2, tyX2_ok⟩, nmX2, rfl, by decide +kernel⟩
set_option maxRecDepth 20000 in
theorem fl_X2_23 : FL false RX2 23 2 4 := ⟨RX2, TX2, 10, rfl, by decide, mw 336 (by rfl) rfl, fx_X2⟩
set_option maxRecDepth 20000 in
theorem fl_X2_27 : FL false RX2 27 2 5 := ⟨RX2, TX2, 10, rfl, by decide, mw 337 (by rfl) rfl, fx_X2⟩
set_option maxRecDepth 20000 in
theorem fl_X2_44 : FL false RX2 44 2 6 := ⟨RX2, TX2, 10, rfl, by decide, mw 338 (by rfl) rfl, fx_X2⟩
set_option maxRecDepth 20000 in
theorem fp_X2_44 : FP RX2 44 2 6 .int := ⟨RX2, TX2, 10, rfl, by decide, mw 338 (by rfl) rfl, fx_X2, ⟨tyX2, tyX2_ok⟩, nmX2, rfl, by decide +kernel⟩
set_option maxRecDepth 20000 in
theorem fl_X2_47 : FL false RX2 47 2 7 := ⟨RX2, TX2, 10, rfl, by decide, mw 339 (by rfl) rfl, fx_X2⟩
set_option maxRecDepth 20000 in
theorem fp_X2_47 : FP RX2 47 2 7 .int := ⟨RX2, TX2, 10, rfl, by decide, mw 339 (by rfl) rfl, fx_X2, ⟨tyX2, tyX2_ok⟩, nmX2, rfl, by decide +kernel⟩
set_option maxRecDepth 20000 in
theorem fl_X2_96 : FL false RX2 96 2 8 := ⟨RX2, TX2, 10, rfl, by decide, mw 340 (by rfl) rfl, fx_X2⟩
set_option maxRecDepth 20000 in
theorem fp_X2_96 : FP RX2 96 2 8 .long := ⟨RX2, TX2, 10, rfl, by decide, mw 340 (by rfl) rfl, fx_X2, ⟨tyX2, tyX2_ok⟩, nmX2, rfl, by decide +kernel⟩
set_option maxRecDepth 20000 in
theorem fl_X2_100 : FL false RX2 100 2 9 := ⟨RX2, TX2, 10, rfl, by decide, mw 341 (by rfl) rfl, fx_X2⟩
set_option maxRecDepth 20000 in
theorem fp_X2_100 : FP RX2 100 2 9 .int := ⟨RX2, TX2, 10, rfl, by decide, mw 341 (by rfl) rfl, fx_X2, ⟨tyX2, tyX2_ok⟩, nmX2, rfl, by decide +kernel⟩
