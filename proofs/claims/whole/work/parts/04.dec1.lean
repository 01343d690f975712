theorem dX1_areRegisters_3 : decode cX1_areRegisters 3 = .ok (.iushr, 1) := by decide +kernel
theorem dX1_areRegisters_4 : decode cX1_areRegisters 4 = .ok (.ifCond .ne 7, 3) := by decide +kernel
theorem dX1_areRegisters_7 : decode cX1_areRegisters 7 = .ok (.iconst 1, 1) := by decide +kernel
theorem dX1_areRegisters_8 : decode cX1_areRegisters 8 = .ok (.goto 4, 3) := by decide +kernel
theorem dX1_areRegisters_11 : decode cX1_areRegisters 11 = .ok (.iconst 0, 1) := by decide +kernel
theorem dX1_areRegisters_12 : decode cX1_areRegisters 12 = .ok (.ireturn, 1) := by decide +kernel
theorem dX1_isListedDay_0 : decode cX1_isListedDay 0 = .ok (.iload_n 0, 1) := by decide +kernel
theorem dX1_isListedDay_1 : decode cX1_isListedDay 1 = .ok (.ifCond .lt 13, 3) := by decide +kernel
theorem dX1_isListedDay_4 : decode cX1_isListedDay 4 = .ok (.iload_n 0, 1) := by decide +kernel
theorem dX1_isListedDay_5 : decode cX1_isListedDay 5 = .ok (.bipush 20, 2) := by decide +kernel
theorem dX1_isListedDay_7 : decode cX1_isListedDay 7 = .ok (.if_icmp .gt 7, 3) := by decide +kernel
theorem dX1_isListedDay_10 : decode cX1_isListedDay 10 = .ok (.iconst 1, 1) := by decide +kernel
theorem dX1_isListedDay_11 : decode cX1_isListedDay 11 = .ok (.goto 4, 3) := by decide +kernel
theorem dX1_isListedDay_14 : decode cX1_isListedDay 14 = .ok (.iconst 0, 1) := by decide +kernel
theorem dX1_isListedDay_15 : decode cX1_isListedDay 15 = .ok (.ireturn, 1) := by decide +kernel
theorem dX1_isSum_0 : decode cX1_isSum 0 = .ok (.iload_n 0, 1) := by decide +kernel
theorem dX1_isSum_1 : decode cX1_isSum 1 = .ok (.ifCond .lt 13, 3) := by decide +kernel
theorem dX1_isSum_4 : decode cX1_isSum 4 = .ok (.iload_n 0, 1) := by decide +kernel
theorem dX1_isSum_5 : decode cX1_isSum 5 = .ok (.bipush 8, 2) := by decide +kernel
theorem dX1_isSum_7 : decode cX1_isSum 7 = .ok (.if_icmp .ge 7, 3) := by decide +kernel
theorem dX1_isSum_10 : decode cX1_isSum 10 = .ok (.iconst 1, 1) := by decide +kernel
theorem dX1_isSum_11 : decode cX1_isSum 11 = .ok (.goto 4, 3) := by decide +kernel
theorem dX1_isSum_14 : decode cX1_isSum 14 = .ok (.iconst 0, 1) := by decide +kernel
theorem dX1_isSum_15 : decode cX1_isSum 15 = .ok (.ireturn, 1) := by decide +kernel
theorem dX1_isExponent_0 : decode cX1_isExponent 0 = .ok (.iload_n 0, 1) := by decide +kernel
theorem dX1_isExponent_1 : decode cX1_isExponent 1 = .ok (.bipush (-6), 2) := by decide +kernel
theorem dX1_isExponent_3 : decode cX1_isExponent 3 = .ok (.if_icmp .lt 13, 3) := by decide +kernel
theorem dX1_isExponent_6 : decode cX1_isExponent 6 = .ok (.iload_n 0, 1) := by decide +kernel
theorem dX1_isExponent_7 : decode cX1_isExponent 7 = .ok (.bipush 6, 2) := by decide +kernel
theorem dX1_isExponent_9 : decode cX1_isExponent 9 = .ok (.if_icmp .gt 7, 3) := by decide +kernel
theorem dX1_isExponent_12 : decode cX1_isExponent 12 = .ok (.iconst 1, 1) := by decide +kernel
theorem dX1_isExponent_13 : decode cX1_isExponent 13 = .ok (.goto 4, 3) := by decide +kernel
theorem dX1_isExponent_16 : decode cX1_isExponent 16 = .ok (.iconst 0, 1) := by decide +kernel
theorem dX1_isExponent_17 : decode cX1_isExponent 17 = .ok (.ireturn, 1) := by decide +kernel
theorem dX1_isFraction_0 : decode cX1_isFraction 0 = .ok (.iload_n 0, 1) := by decide +kernel
theorem dX1_isFraction_1 : decode cX1_isFraction 1 = .ok (.ldc 60, 2) := by decide +kernel
theorem dX1_isFraction_3 : decode cX1_isFraction 3 = .ok (.if_icmp .lt 23, 3) := by decide +kernel
theorem dX1_isFraction_6 : decode cX1_isFraction 6 = .ok (.iload_n 0, 1) := by decide +kernel
theorem dX1_isFraction_7 : decode cX1_isFraction 7 = .ok (.ldc 161, 2) := by decide +kernel
theorem dX1_isFraction_9 : decode cX1_isFraction 9 = .ok (.if_icmp .gt 17, 3) := by decide +kernel
theorem dX1_isFraction_12 : decode cX1_isFraction 12 = .ok (.iload_n 1, 1) := by decide +kernel
theorem dX1_isFraction_13 : decode cX1_isFraction 13 = .ok (.ifCond .lt 13, 3) := by decide +kernel
theorem dX1_isFraction_16 : decode cX1_isFraction 16 = .ok (.iload_n 1, 1) := by decide +kernel
theorem dX1_isFraction_17 : decode cX1_isFraction 17 = .ok (.bipush 20, 2) := by decide +kernel
theorem dX1_isFraction_19 : decode cX1_isFraction 19 = .ok (.if_icmp .gt 7, 3) := by decide +kernel
theorem dX1_isFraction_22 : decode cX1_isFraction 22 = .ok (.iconst 1, 1) := by decide +kernel
theorem dX1_isFraction_23 : decode cX1_isFraction 23 = .ok (.goto 4, 3) := by decide +kernel
theorem dX1_isFraction_26 : decode cX1_isFraction 26 = .ok (.iconst 0, 1) := by decide +kernel
theorem dX1_isFraction_27 : decode cX1_isFraction 27 = .ok (.ireturn, 1) := by decide +kernel
theorem dX1_has_0 : decode cX1_has 0 = .ok (.iload_n 0, 1) := by decide +kernel
theorem dX1_has_1 : decode cX1_has 1 = .ok (.iload_n 1, 1) := by decide +kernel
theorem dX1_has_2 : decode cX1_has 2 = .ok (.iushr, 1) := by decide +kernel
theorem dX1_has_3 : decode cX1_has 3 = .ok (.iconst 1, 1) := by decide +kernel
theorem dX1_has_4 : decode cX1_has 4 = .ok (.iand, 1) := by decide +kernel
theorem dX1_has_5 : decode cX1_has 5 = .ok (.iconst 1, 1) := by decide +kernel
theorem dX1_has_6 : decode cX1_has 6 = .ok (.if_icmp .ne 7, 3) := by decide +kernel
theorem dX1_has_9 : decode cX1_has 9 = .ok (.iconst 1, 1) := by decide +kernel
theorem dX1_has_10 : decode cX1_has 10 = .ok (.goto 4, 3) := by decide +kernel
theorem dX1_has_13 : decode cX1_has 13 = .ok (.iconst 0, 1) := by decide +kernel
theorem dX1_has_14 : decode cX1_has 14 = .ok (.ireturn, 1) := by decide +kernel
theorem dX1_isPlus_0 : decode cX1_isPlus 0 = .ok (.iload_n 0, 1) := by decide +kernel
theorem dX1_isPlus_1 : decode cX1_isPlus 1 = .ok (.iload_n 1, 1) := by decide +kernel
theorem dX1_isPlus_2 : decode cX1_isPlus 2 = .ok (.invokestatic 106, 3) := by decide +kernel
theorem dX1_isPlus_5 : decode cX1_isPlus 5 = .ok (.ireturn, 1) := by decide +kernel
theorem dX1_lowBits_0 : decode cX1_lowBits 0 = .ok (.iconst 1, 1) := by decide +kernel
theorem dX1_lowBits_1 : decode cX1_lowBits 1 = .ok (.iload_n 0, 1) := by decide +kernel
theorem dX1_lowBits_2 : decode cX1_lowBits 2 = .ok (.ishl, 1) := by decide +kernel
theorem dX1_lowBits_3 : decode cX1_lowBits 3 = .ok (.iconst 1, 1) := by decide +kernel
theorem dX1_lowBits_4 : decode cX1_lowBits 4 = .ok (.isub, 1) := by decide +kernel
theorem dX1_lowBits_5 : decode cX1_lowBits 5 = .ok (.ireturn, 1) := by decide +kernel
theorem dX1_turnedRound_0 : decode cX1_turnedRound 0 = .ok (.iconst 0, 1) := by decide +kernel
theorem dX1_turnedRound_1 : decode cX1_turnedRound 1 = .ok (.istore_n 2, 1) := by decide +kernel
theorem dX1_turnedRound_2 : decode cX1_turnedRound 2 = .ok (.iconst 0, 1) := by decide +kernel
theorem dX1_turnedRound_3 : decode cX1_turnedRound 3 = .ok (.istore_n 3, 1) := by decide +kernel
theorem dX1_turnedRound_4 : decode cX1_turnedRound 4 = .ok (.iload_n 3, 1) := by decide +kernel
theorem dX1_turnedRound_5 : decode cX1_turnedRound 5 = .ok (.iload_n 1, 1) := by decide +kernel
theorem dX1_turnedRound_6 : decode cX1_turnedRound 6 = .ok (.if_icmp .ge 19, 3) := by decide +kernel
theorem dX1_turnedRound_9 : decode cX1_turnedRound 9 = .ok (.iload_n 2, 1) := by decide +kernel
theorem dX1_turnedRound_10 : decode cX1_turnedRound 10 = .ok (.iconst 1, 1) := by decide +kernel
theorem dX1_turnedRound_11 : decode cX1_turnedRound 11 = .ok (.ishl, 1) := by decide +kernel
theorem dX1_turnedRound_12 : decode cX1_turnedRound 12 = .ok (.iload_n 0, 1) := by decide +kernel
theorem dX1_turnedRound_13 : decode cX1_turnedRound 13 = .ok (.iload_n 3, 1) := by decide +kernel
theorem dX1_turnedRound_14 : decode cX1_turnedRound 14 = .ok (.iushr, 1) := by decide +kernel
theorem dX1_turnedRound_15 : decode cX1_turnedRound 15 = .ok (.iconst 1, 1) := by decide +kernel
theorem dX1_turnedRound_16 : decode cX1_turnedRound 16 = .ok (.iand, 1) := by decide +kernel
theorem dX1_turnedRound_17 : decode cX1_turnedRound 17 = .ok (.ior, 1) := by decide +kernel
theorem dX1_turnedRound_18 : decode cX1_turnedRound 18 = .ok (.istore_n 2, 1) := by decide +kernel
theorem dX1_turnedRound_19 : decode cX1_turnedRound 19 = .ok (.iinc 3 1, 3) := by decide +kernel
theorem dX1_turnedRound_22 : decode cX1_turnedRound 22 = .ok (.goto (-18), 3) := by decide +kernel
theorem dX1_turnedRound_25 : decode cX1_turnedRound 25 = .ok (.iload_n 2, 1) := by decide +kernel
theorem dX1_turnedRound_26 : decode cX1_turnedRound 26 = .ok (.ireturn, 1) := by decide +kernel
theorem dX1_signOf_0 : decode cX1_signOf 0 = .ok (.lload_n 0, 1) := by decide +kernel
theorem dX1_signOf_1 : decode cX1_signOf 1 = .ok (.lconst 0, 1) := by decide +kernel
theorem dX1_signOf_2 : decode cX1_signOf 2 = .ok (.lcmp, 1) := by decide +kernel
theorem dX1_signOf_3 : decode cX1_signOf 3 = .ok (.ifCond .ne 5, 3) := by decide +kernel
theorem dX1_signOf_6 : decode cX1_signOf 6 = .ok (.iconst 0, 1) := by decide +kernel
theorem dX1_signOf_7 : decode cX1_signOf 7 = .ok (.ireturn, 1) := by decide +kernel
theorem dX1_signOf_8 : decode cX1_signOf 8 = .ok (.lload_n 0, 1) := by decide +kernel
theorem dX1_signOf_9 : decode cX1_signOf 9 = .ok (.lconst 0, 1) := by decide +kernel
theorem dX1_signOf_10 : decode cX1_signOf 10 = .ok (.lcmp, 1) := by decide +kernel
theorem dX1_signOf_11 : decode cX1_signOf 11 = .ok (.ifCond .ge 7, 3) := by decide +kernel
theorem dX1_signOf_14 : decode cX1_signOf 14 = .ok (.iconst (-1), 1) := by decide +kernel
theorem dX1_signOf_15 : decode cX1_signOf 15 = .ok (.goto 4, 3) := by decide +kernel
theorem dX1_signOf_18 : decode cX1_signOf 18 = .ok (.iconst 1, 1) := by decide +kernel
theorem dX1_signOf_19 : decode cX1_signOf 19 = .ok (.ireturn, 1) := by decide +kernel
theorem dX1_isPowerOfTwo_0 : decode cX1_isPowerOfTwo 0 = .ok (.lload_n 0, 1) := by decide +kernel
theorem dX1_isPowerOfTwo_1 : decode cX1_isPowerOfTwo 1 = .ok (.invokestatic 162, 3) := by decide +kernel
theorem dX1_isPowerOfTwo_4 : decode cX1_isPowerOfTwo 4 = .ok (.invokestatic 168, 3) := by decide +kernel
theorem dX1_isPowerOfTwo_7 : decode cX1_isPowerOfTwo 7 = .ok (.iconst 1, 1) := by decide +kernel
theorem dX1_isPowerOfTwo_8 : decode cX1_isPowerOfTwo 8 = .ok (.if_icmp .ne 7, 3) := by decide +kernel
theorem dX1_isPowerOfTwo_11 : decode cX1_isPowerOfTwo 11 = .ok (.iconst 1, 1) := by decide +kernel
theorem dX1_isPowerOfTwo_12 : decode cX1_isPowerOfTwo 12 = .ok (.goto 4, 3) := by decide +kernel
theorem dX1_isPowerOfTwo_15 : decode cX1_isPowerOfTwo 15 = .ok (.iconst 0, 1) := by decide +kernel
theorem dX1_isPowerOfTwo_16 : decode cX1_isPowerOfTwo 16 = .ok (.ireturn, 1) := by decide +kernel
theorem dX1_halvings_0 : decode cX1_halvings 0 = .ok (.lload_n 0, 1) := by decide +kernel
theorem dX1_halvings_1 : decode cX1_halvings 1 = .ok (.lload_n 0, 1) := by decide +kernel
theorem dX1_halvings_2 : decode cX1_halvings 2 = .ok (.lneg, 1) := by decide +kernel
theorem dX1_halvings_3 : decode cX1_halvings 3 = .ok (.land, 1) := by decide +kernel
theorem dX1_halvings_4 : decode cX1_halvings 4 = .ok (.lconst 1, 1) := by decide +kernel
theorem dX1_halvings_5 : decode cX1_halvings 5 = .ok (.lsub, 1) := by decide +kernel
theorem dX1_halvings_6 : decode cX1_halvings 6 = .ok (.invokestatic 168, 3) := by decide +kernel
theorem dX1_halvings_9 : decode cX1_halvings 9 = .ok (.ireturn, 1) := by decide +kernel
theorem dX1_leastBelow_0 : decode cX1_leastBelow 0 = .ok (.iconst 0, 1) := by decide +kernel
theorem dX1_leastBelow_1 : decode cX1_leastBelow 1 = .ok (.iload_n 2, 1) := by decide +kernel
theorem dX1_leastBelow_2 : decode cX1_leastBelow 2 = .ok (.lload_n 0, 1) := by decide +kernel
theorem dX1_leastBelow_3 : decode cX1_leastBelow 3 = .ok (.invokestatic 172, 3) := by decide +kernel
theorem dX1_leastBelow_6 : decode cX1_leastBelow 6 = .ok (.isub, 1) := by decide +kernel
theorem dX1_leastBelow_7 : decode cX1_leastBelow 7 = .ok (.invokestatic 175, 3) := by decide +kernel
theorem dX1_leastBelow_10 : decode cX1_leastBelow 10 = .ok (.ireturn, 1) := by decide +kernel
theorem dX1_leastAbove_0 : decode cX1_leastAbove 0 = .ok (.lload_n 0, 1) := by decide +kernel
theorem dX1_leastAbove_1 : decode cX1_leastAbove 1 = .ok (.iload_n 2, 1) := by decide +kernel
theorem dX1_leastAbove_2 : decode cX1_leastAbove 2 = .ok (.lload_n 0, 1) := by decide +kernel
theorem dX1_leastAbove_3 : decode cX1_leastAbove 3 = .ok (.iload_n 2, 1) := by decide +kernel
theorem dX1_leastAbove_4 : decode cX1_leastAbove 4 = .ok (.invokestatic 65, 3) := by decide +kernel
theorem dX1_leastAbove_7 : decode cX1_leastAbove 7 = .ok (.isub, 1) := by decide +kernel
theorem dX1_leastAbove_8 : decode cX1_leastAbove 8 = .ok (.lshr, 1) := by decide +kernel
theorem dX1_leastAbove_9 : decode cX1_leastAbove 9 = .ok (.l2i, 1) := by decide +kernel
theorem dX1_leastAbove_10 : decode cX1_leastAbove 10 = .ok (.ireturn, 1) := by decide +kernel
theorem dX1_factorOf_0 : decode cX1_factorOf 0 = .ok (.lload_n 0, 1) := by decide +kernel
theorem dX1_factorOf_1 : decode cX1_factorOf 1 = .ok (.iload_n 2, 1) := by decide +kernel
theorem dX1_factorOf_2 : decode cX1_factorOf 2 = .ok (.invokestatic 65, 3) := by decide +kernel
theorem dX1_factorOf_5 : decode cX1_factorOf 5 = .ok (.istore_n 3, 1) := by decide +kernel
theorem dX1_factorOf_6 : decode cX1_factorOf 6 = .ok (.lload_n 0, 1) := by decide +kernel
theorem dX1_factorOf_7 : decode cX1_factorOf 7 = .ok (.iload_n 2, 1) := by decide +kernel
theorem dX1_factorOf_8 : decode cX1_factorOf 8 = .ok (.iload_n 3, 1) := by decide +kernel
theorem dX1_factorOf_9 : decode cX1_factorOf 9 = .ok (.isub, 1) := by decide +kernel
theorem dX1_factorOf_10 : decode cX1_factorOf 10 = .ok (.lshr, 1) := by decide +kernel
theorem dX1_factorOf_11 : decode cX1_factorOf 11 = .ok (.lstore 4, 2) := by decide +kernel
theorem dX1_factorOf_13 : decode cX1_factorOf 13 = .ok (.iload_n 3, 1) := by decide +kernel
theorem dX1_factorOf_14 : decode cX1_factorOf 14 = .ok (.bipush 20, 2) := by decide +kernel
theorem dX1_factorOf_16 : decode cX1_factorOf 16 = .ok (.if_icmp .gt 21, 3) := by decide +kernel
theorem dX1_factorOf_19 : decode cX1_factorOf 19 = .ok (.lload 4, 2) := by decide +kernel
theorem dX1_factorOf_21 : decode cX1_factorOf 21 = .ok (.ldc2_w 178, 3) := by decide +kernel
theorem dX1_factorOf_24 : decode cX1_factorOf 24 = .ok (.lcmp, 1) := by decide +kernel
theorem dX1_factorOf_25 : decode cX1_factorOf 25 = .ok (.ifCond .lt 12, 3) := by decide +kernel
theorem dX1_factorOf_28 : decode cX1_factorOf 28 = .ok (.lload 4, 2) := by decide +kernel
theorem dX1_factorOf_30 : decode cX1_factorOf 30 = .ok (.ldc2_w 180, 3) := by decide +kernel
theorem dX1_factorOf_33 : decode cX1_factorOf 33 = .ok (.lcmp, 1) := by decide +kernel
theorem dX1_factorOf_34 : decode cX1_factorOf 34 = .ok (.ifCond .le 7, 3) := by decide +kernel
theorem dX1_factorOf_37 : decode cX1_factorOf 37 = .ok (.ldc2_w 159, 3) := by decide +kernel
theorem dX1_factorOf_40 : decode cX1_factorOf 40 = .ok (.lreturn, 1) := by decide +kernel
theorem dX1_factorOf_41 : decode cX1_factorOf 41 = .ok (.lload 4, 2) := by decide +kernel
theorem dX1_factorOf_43 : decode cX1_factorOf 43 = .ok (.bipush 20, 2) := by decide +kernel
theorem dX1_factorOf_45 : decode cX1_factorOf 45 = .ok (.iload_n 3, 1) := by decide +kernel
theorem dX1_factorOf_46 : decode cX1_factorOf 46 = .ok (.isub, 1) := by decide +kernel
theorem dX1_factorOf_47 : decode cX1_factorOf 47 = .ok (.lshl, 1) := by decide +kernel
theorem dX1_factorOf_48 : decode cX1_factorOf 48 = .ok (.lreturn, 1) := by decide +kernel
theorem dX1_factorProduct_0 : decode cX1_factorProduct 0 = .ok (.lload_n 0, 1) := by decide +kernel
theorem dX1_factorProduct_1 : decode cX1_factorProduct 1 = .ok (.bipush 20, 2) := by decide +kernel
theorem dX1_factorProduct_3 : decode cX1_factorProduct 3 = .ok (.invokestatic 61, 3) := by decide +kernel
theorem dX1_factorProduct_6 : decode cX1_factorProduct 6 = .ok (.i2l, 1) := by decide +kernel
theorem dX1_factorProduct_7 : decode cX1_factorProduct 7 = .ok (.lload_n 2, 1) := by decide +kernel
theorem dX1_factorProduct_8 : decode cX1_factorProduct 8 = .ok (.bipush 20, 2) := by decide +kernel
theorem dX1_factorProduct_10 : decode cX1_factorProduct 10 = .ok (.invokestatic 61, 3) := by decide +kernel
theorem dX1_factorProduct_13 : decode cX1_factorProduct 13 = .ok (.i2l, 1) := by decide +kernel
theorem dX1_factorProduct_14 : decode cX1_factorProduct 14 = .ok (.lmul, 1) := by decide +kernel
theorem dX1_factorProduct_15 : decode cX1_factorProduct 15 = .ok (.lstore 4, 2) := by decide +kernel
theorem dX1_factorProduct_17 : decode cX1_factorProduct 17 = .ok (.lload 4, 2) := by decide +kernel
theorem dX1_factorProduct_19 : decode cX1_factorProduct 19 = .ok (.lload_n 0, 1) := by decide +kernel
theorem dX1_factorProduct_20 : decode cX1_factorProduct 20 = .ok (.bipush 20, 2) := by decide +kernel
theorem dX1_factorProduct_22 : decode cX1_factorProduct 22 = .ok (.invokestatic 65, 3) := by decide +kernel
theorem dX1_factorProduct_25 : decode cX1_factorProduct 25 = .ok (.lload_n 2, 1) := by decide +kernel
theorem dX1_factorProduct_26 : decode cX1_factorProduct 26 = .ok (.bipush 20, 2) := by decide +kernel
theorem dX1_factorProduct_28 : decode cX1_factorProduct 28 = .ok (.invokestatic 65, 3) := by decide +kernel
theorem dX1_factorProduct_31 : decode cX1_factorProduct 31 = .ok (.iadd, 1) := by decide +kernel
theorem dX1_factorProduct_32 : decode cX1_factorProduct 32 = .ok (.invokestatic 123, 3) := by decide +kernel
theorem dX1_factorProduct_35 : decode cX1_factorProduct 35 = .ok (.lreturn, 1) := by decide +kernel
theorem dX1_factorQuotient_0 : decode cX1_factorQuotient 0 = .ok (.lload_n 2, 1) := by decide +kernel
theorem dX1_factorQuotient_1 : decode cX1_factorQuotient 1 = .ok (.lconst 0, 1) := by decide +kernel
theorem dX1_factorQuotient_2 : decode cX1_factorQuotient 2 = .ok (.lcmp, 1) := by decide +kernel
theorem dX1_factorQuotient_3 : decode cX1_factorQuotient 3 = .ok (.ifCond .ge 8, 3) := by decide +kernel
theorem dX1_factorQuotient_6 : decode cX1_factorQuotient 6 = .ok (.lload_n 0, 1) := by decide +kernel
theorem dX1_factorQuotient_7 : decode cX1_factorQuotient 7 = .ok (.lneg, 1) := by decide +kernel
theorem dX1_factorQuotient_8 : decode cX1_factorQuotient 8 = .ok (.goto 4, 3) := by decide +kernel
theorem dX1_factorQuotient_11 : decode cX1_factorQuotient 11 = .ok (.lload_n 0, 1) := by decide +kernel
theorem dX1_factorQuotient_12 : decode cX1_factorQuotient 12 = .ok (.lload_n 2, 1) := by decide +kernel
theorem dX1_factorQuotient_13 : decode cX1_factorQuotient 13 = .ok (.invokestatic 172, 3) := by decide +kernel
theorem dX1_factorQuotient_16 : decode cX1_factorQuotient 16 = .ok (.invokestatic 123, 3) := by decide +kernel
theorem dX1_factorQuotient_19 : decode cX1_factorQuotient 19 = .ok (.lreturn, 1) := by decide +kernel
theorem dX1_hold_0 : decode cX1_hold 0 = .ok (.aload_n 0, 1) := by decide +kernel
theorem dX1_hold_1 : decode cX1_hold 1 = .ok (.getfield 9, 3) := by decide +kernel
theorem dX1_hold_4 : decode cX1_hold 4 = .ok (.iload_n 1, 1) := by decide +kernel
theorem dX1_hold_5 : decode cX1_hold 5 = .ok (.iload_n 2, 1) := by decide +kernel
theorem dX1_hold_6 : decode cX1_hold 6 = .ok (.iastore, 1) := by decide +kernel
theorem dX1_hold_7 : decode cX1_hold 7 = .ok (.aload_n 0, 1) := by decide +kernel
theorem dX1_hold_8 : decode cX1_hold 8 = .ok (.getfield 13, 3) := by decide +kernel
theorem dX1_hold_11 : decode cX1_hold 11 = .ok (.iload_n 1, 1) := by decide +kernel
theorem dX1_hold_12 : decode cX1_hold 12 = .ok (.iload_n 3, 1) := by decide +kernel
theorem dX1_hold_13 : decode cX1_hold 13 = .ok (.iastore, 1) := by decide +kernel
theorem dX1_hold_14 : decode cX1_hold 14 = .ok (.aload_n 0, 1) := by decide +kernel
theorem dX1_hold_15 : decode cX1_hold 15 = .ok (.getfield 16, 3) := by decide +kernel
theorem dX1_hold_18 : decode cX1_hold 18 = .ok (.iload_n 1, 1) := by decide +kernel
theorem dX1_hold_19 : decode cX1_hold 19 = .ok (.iload_n 2, 1) := by decide +kernel
theorem dX1_hold_20 : decode cX1_hold 20 = .ok (.iload_n 3, 1) := by decide +kernel
theorem dX1_hold_21 : decode cX1_hold 21 = .ok (.invokestatic 182, 3) := by decide +kernel
theorem dX1_hold_24 : decode cX1_hold 24 = .ok (.lastore, 1) := by decide +kernel
theorem dX1_hold_25 : decode cX1_hold 25 = .ok (.iload_n 2, 1) := by decide +kernel
theorem dX1_hold_26 : decode cX1_hold 26 = .ok (.ireturn, 1) := by decide +kernel
theorem dX1_worth_0 : decode cX1_worth 0 = .ok (.iload_n 1, 1) := by decide +kernel
theorem dX1_worth_1 : decode cX1_worth 1 = .ok (.iconst 0, 1) := by decide +kernel
theorem dX1_worth_2 : decode cX1_worth 2 = .ok (.invokestatic 57, 3) := by decide +kernel
theorem dX1_worth_5 : decode cX1_worth 5 = .ok (.istore_n 2, 1) := by decide +kernel
theorem dX1_worth_6 : decode cX1_worth 6 = .ok (.iconst 1, 1) := by decide +kernel
theorem dX1_worth_7 : decode cX1_worth 7 = .ok (.istore_n 3, 1) := by decide +kernel
theorem dX1_worth_8 : decode cX1_worth 8 = .ok (.ldc2_w 186, 3) := by decide +kernel
theorem dX1_worth_11 : decode cX1_worth 11 = .ok (.lstore 4, 2) := by decide +kernel
theorem dX1_worth_13 : decode cX1_worth 13 = .ok (.lconst 0, 1) := by decide +kernel
theorem dX1_worth_14 : decode cX1_worth 14 = .ok (.lstore 6, 2) := by decide +kernel
theorem dX1_worth_16 : decode cX1_worth 16 = .ok (.iconst 0, 1) := by decide +kernel
theorem dX1_worth_17 : decode cX1_worth 17 = .ok (.istore 8, 2) := by decide +kernel
theorem dX1_worth_19 : decode cX1_worth 19 = .ok (.iload 8, 2) := by decide +kernel
theorem dX1_worth_21 : decode cX1_worth 21 = .ok (.iload_n 0, 1) := by decide +kernel
theorem dX1_worth_22 : decode cX1_worth 22 = .ok (.if_icmp .ge 63, 3) := by decide +kernel
theorem dX1_worth_25 : decode cX1_worth 25 = .ok (.iload_n 1, 1) := by decide +kernel
theorem dX1_worth_26 : decode cX1_worth 26 = .ok (.iload 8, 2) := by decide +kernel
theorem dX1_worth_28 : decode cX1_worth 28 = .ok (.invokestatic 57, 3) := by decide +kernel
theorem dX1_worth_31 : decode cX1_worth 31 = .ok (.istore 9, 2) := by decide +kernel
theorem dX1_worth_33 : decode cX1_worth 33 = .ok (.iload_n 3, 1) := by decide +kernel
theorem dX1_worth_34 : decode cX1_worth 34 = .ok (.ifCond .eq 13, 3) := by decide +kernel
theorem dX1_worth_37 : decode cX1_worth 37 = .ok (.iload 9, 2) := by decide +kernel
theorem dX1_worth_39 : decode cX1_worth 39 = .ok (.iload_n 2, 1) := by decide +kernel
theorem dX1_worth_40 : decode cX1_worth 40 = .ok (.if_icmp .ne 7, 3) := by decide +kernel
theorem dX1_worth_43 : decode cX1_worth 43 = .ok (.iconst 1, 1) := by decide +kernel
theorem dX1_worth_44 : decode cX1_worth 44 = .ok (.goto 4, 3) := by decide +kernel
theorem dX1_worth_47 : decode cX1_worth 47 = .ok (.iconst 0, 1) := by decide +kernel
theorem dX1_worth_48 : decode cX1_worth 48 = .ok (.istore_n 3, 1) := by decide +kernel
theorem dX1_worth_49 : decode cX1_worth 49 = .ok (.iload_n 3, 1) := by decide +kernel
theorem dX1_worth_50 : decode cX1_worth 50 = .ok (.ifCond .ne 11, 3) := by decide +kernel
theorem dX1_worth_53 : decode cX1_worth 53 = .ok (.lload 4, 2) := by decide +kernel
theorem dX1_worth_55 : decode cX1_worth 55 = .ok (.ldc2_w 188, 3) := by decide +kernel
theorem dX1_worth_58 : decode cX1_worth 58 = .ok (.ldiv, 1) := by decide +kernel
theorem dX1_worth_59 : decode cX1_worth 59 = .ok (.lstore 4, 2) := by decide +kernel
theorem dX1_worth_61 : decode cX1_worth 61 = .ok (.lload 6, 2) := by decide +kernel
theorem dX1_worth_63 : decode cX1_worth 63 = .ok (.iload 9, 2) := by decide +kernel
theorem dX1_worth_65 : decode cX1_worth 65 = .ok (.ifCond .eq 8, 3) := by decide +kernel
theorem dX1_worth_68 : decode cX1_worth 68 = .ok (.lload 4, 2) := by decide +kernel
theorem dX1_worth_70 : decode cX1_worth 70 = .ok (.goto 6, 3) := by decide +kernel
theorem dX1_worth_73 : decode cX1_worth 73 = .ok (.lload 4, 2) := by decide +kernel
theorem dX1_worth_75 : decode cX1_worth 75 = .ok (.lneg, 1) := by decide +kernel
theorem dX1_worth_76 : decode cX1_worth 76 = .ok (.ladd, 1) := by decide +kernel
theorem dX1_worth_77 : decode cX1_worth 77 = .ok (.lstore 6, 2) := by decide +kernel
theorem dX1_worth_79 : decode cX1_worth 79 = .ok (.iinc 8 1, 3) := by decide +kernel
theorem dX1_worth_82 : decode cX1_worth 82 = .ok (.goto (-63), 3) := by decide +kernel
theorem dX1_worth_85 : decode cX1_worth 85 = .ok (.lload 6, 2) := by decide +kernel
theorem dX1_worth_87 : decode cX1_worth 87 = .ok (.lreturn, 1) := by decide +kernel
theorem dX1_holdValue_0 : decode cX1_holdValue 0 = .ok (.aload_n 0, 1) := by decide +kernel
theorem dX1_holdValue_1 : decode cX1_holdValue 1 = .ok (.iload_n 1, 1) := by decide +kernel
theorem dX1_holdValue_2 : decode cX1_holdValue 2 = .ok (.lload_n 2, 1) := by decide +kernel
theorem dX1_holdValue_3 : decode cX1_holdValue 3 = .ok (.lload_n 2, 1) := by decide +kernel
theorem dX1_holdValue_4 : decode cX1_holdValue 4 = .ok (.invokevirtual 92, 3) := by decide +kernel
theorem dX1_holdValue_7 : decode cX1_holdValue 7 = .ok (.ireturn, 1) := by decide +kernel
theorem dX1_holdProduct_0 : decode cX1_holdProduct 0 = .ok (.lload_n 2, 1) := by decide +kernel
theorem dX1_holdProduct_1 : decode cX1_holdProduct 1 = .ok (.ldc2_w 186, 3) := by decide +kernel
theorem dX1_holdProduct_4 : decode cX1_holdProduct 4 = .ok (.lrem, 1) := by decide +kernel
theorem dX1_holdProduct_5 : decode cX1_holdProduct 5 = .ok (.lconst 0, 1) := by decide +kernel
theorem dX1_holdProduct_6 : decode cX1_holdProduct 6 = .ok (.lcmp, 1) := by decide +kernel
theorem dX1_holdProduct_7 : decode cX1_holdProduct 7 = .ok (.ifCond .eq 6, 3) := by decide +kernel
theorem dX1_holdProduct_10 : decode cX1_holdProduct 10 = .ok (.bipush (-3), 2) := by decide +kernel
theorem dX1_holdProduct_12 : decode cX1_holdProduct 12 = .ok (.ireturn, 1) := by decide +kernel
theorem dX1_holdProduct_13 : decode cX1_holdProduct 13 = .ok (.aload_n 0, 1) := by decide +kernel
theorem dX1_holdProduct_14 : decode cX1_holdProduct 14 = .ok (.iload_n 1, 1) := by decide +kernel
theorem dX1_holdProduct_15 : decode cX1_holdProduct 15 = .ok (.lload_n 2, 1) := by decide +kernel
theorem dX1_holdProduct_16 : decode cX1_holdProduct 16 = .ok (.ldc2_w 186, 3) := by decide +kernel
theorem dX1_holdProduct_19 : decode cX1_holdProduct 19 = .ok (.ldiv, 1) := by decide +kernel
theorem dX1_holdProduct_20 : decode cX1_holdProduct 20 = .ok (.invokevirtual 53, 3) := by decide +kernel
theorem dX1_holdProduct_23 : decode cX1_holdProduct 23 = .ok (.ireturn, 1) := by decide +kernel
theorem dX1_holdSimplest_0 : decode cX1_holdSimplest 0 = .ok (.iconst 0, 1) := by decide +kernel
theorem dX1_holdSimplest_1 : decode cX1_holdSimplest 1 = .ok (.istore 6, 2) := by decide +kernel
theorem dX1_holdSimplest_3 : decode cX1_holdSimplest 3 = .ok (.iconst 0, 1) := by decide +kernel
theorem dX1_holdSimplest_4 : decode cX1_holdSimplest 4 = .ok (.istore 7, 2) := by decide +kernel
theorem dX1_holdSimplest_6 : decode cX1_holdSimplest 6 = .ok (.iload 7, 2) := by decide +kernel
theorem dX1_holdSimplest_8 : decode cX1_holdSimplest 8 = .ok (.bipush 24, 2) := by decide +kernel
theorem dX1_holdSimplest_10 : decode cX1_holdSimplest 10 = .ok (.if_icmp .gt 55, 3) := by decide +kernel
theorem dX1_holdSimplest_13 : decode cX1_holdSimplest 13 = .ok (.iload 7, 2) := by decide +kernel
theorem dX1_holdSimplest_15 : decode cX1_holdSimplest 15 = .ok (.iload 6, 2) := by decide +kernel
theorem dX1_holdSimplest_17 : decode cX1_holdSimplest 17 = .ok (.invokestatic 182, 3) := by decide +kernel
theorem dX1_holdSimplest_20 : decode cX1_holdSimplest 20 = .ok (.lstore 8, 2) := by decide +kernel
theorem dX1_holdSimplest_22 : decode cX1_holdSimplest 22 = .ok (.lload 8, 2) := by decide +kernel
theorem dX1_holdSimplest_24 : decode cX1_holdSimplest 24 = .ok (.lload_n 2, 1) := by decide +kernel
theorem dX1_holdSimplest_25 : decode cX1_holdSimplest 25 = .ok (.lcmp, 1) := by decide +kernel
theorem dX1_holdSimplest_26 : decode cX1_holdSimplest 26 = .ok (.ifCond .ge 15, 3) := by decide +kernel
theorem dX1_holdSimplest_29 : decode cX1_holdSimplest 29 = .ok (.iload 6, 2) := by decide +kernel
theorem dX1_holdSimplest_31 : decode cX1_holdSimplest 31 = .ok (.iconst 1, 1) := by decide +kernel
theorem dX1_holdSimplest_32 : decode cX1_holdSimplest 32 = .ok (.iload 7, 2) := by decide +kernel
theorem dX1_holdSimplest_34 : decode cX1_holdSimplest 34 = .ok (.ishl, 1) := by decide +kernel
theorem dX1_holdSimplest_35 : decode cX1_holdSimplest 35 = .ok (.ior, 1) := by decide +kernel
theorem dX1_holdSimplest_36 : decode cX1_holdSimplest 36 = .ok (.istore 6, 2) := by decide +kernel
theorem dX1_holdSimplest_38 : decode cX1_holdSimplest 38 = .ok (.goto 21, 3) := by decide +kernel
theorem dX1_holdSimplest_41 : decode cX1_holdSimplest 41 = .ok (.lload 8, 2) := by decide +kernel
theorem dX1_holdSimplest_43 : decode cX1_holdSimplest 43 = .ok (.lload 4, 2) := by decide +kernel
theorem dX1_holdSimplest_45 : decode cX1_holdSimplest 45 = .ok (.lcmp, 1) := by decide +kernel
theorem dX1_holdSimplest_46 : decode cX1_holdSimplest 46 = .ok (.ifCond .gt 13, 3) := by decide +kernel
theorem dX1_holdSimplest_49 : decode cX1_holdSimplest 49 = .ok (.aload_n 0, 1) := by decide +kernel
theorem dX1_holdSimplest_50 : decode cX1_holdSimplest 50 = .ok (.iload_n 1, 1) := by decide +kernel
theorem dX1_holdSimplest_51 : decode cX1_holdSimplest 51 = .ok (.iload 7, 2) := by decide +kernel
theorem dX1_holdSimplest_53 : decode cX1_holdSimplest 53 = .ok (.iload 6, 2) := by decide +kernel
theorem dX1_holdSimplest_55 : decode cX1_holdSimplest 55 = .ok (.invokevirtual 45, 3) := by decide +kernel
theorem dX1_holdSimplest_58 : decode cX1_holdSimplest 58 = .ok (.ireturn, 1) := by decide +kernel
theorem dX1_holdSimplest_59 : decode cX1_holdSimplest 59 = .ok (.iinc 7 1, 3) := by decide +kernel
theorem dX1_holdSimplest_62 : decode cX1_holdSimplest 62 = .ok (.goto (-56), 3) := by decide +kernel
theorem dX1_holdSimplest_65 : decode cX1_holdSimplest 65 = .ok (.bipush (-3), 2) := by decide +kernel
theorem dX1_holdSimplest_67 : decode cX1_holdSimplest 67 = .ok (.ireturn, 1) := by decide +kernel
theorem dX1_findPair_0 : decode cX1_findPair 0 = .ok (.iconst 0, 1) := by decide +kernel
theorem dX1_findPair_1 : decode cX1_findPair 1 = .ok (.istore_n 3, 1) := by decide +kernel
theorem dX1_findPair_2 : decode cX1_findPair 2 = .ok (.iload_n 3, 1) := by decide +kernel
theorem dX1_findPair_3 : decode cX1_findPair 3 = .ok (.bipush 12, 2) := by decide +kernel
theorem dX1_findPair_5 : decode cX1_findPair 5 = .ok (.if_icmp .ge 72, 3) := by decide +kernel
theorem dX1_findPair_8 : decode cX1_findPair 8 = .ok (.iconst 0, 1) := by decide +kernel
theorem dX1_findPair_9 : decode cX1_findPair 9 = .ok (.istore 4, 2) := by decide +kernel
theorem dX1_findPair_11 : decode cX1_findPair 11 = .ok (.iload 4, 2) := by decide +kernel
theorem dX1_findPair_13 : decode cX1_findPair 13 = .ok (.bipush 12, 2) := by decide +kernel
theorem dX1_findPair_15 : decode cX1_findPair 15 = .ok (.if_icmp .ge 56, 3) := by decide +kernel
theorem dX1_findPair_18 : decode cX1_findPair 18 = .ok (.iload_n 1, 1) := by decide +kernel
theorem dX1_findPair_19 : decode cX1_findPair 19 = .ok (.iload_n 3, 1) := by decide +kernel
theorem dX1_findPair_20 : decode cX1_findPair 20 = .ok (.invokestatic 106, 3) := by decide +kernel
theorem dX1_findPair_23 : decode cX1_findPair 23 = .ok (.ifCond .eq 42, 3) := by decide +kernel
theorem dX1_findPair_26 : decode cX1_findPair 26 = .ok (.iload_n 2, 1) := by decide +kernel
theorem dX1_findPair_27 : decode cX1_findPair 27 = .ok (.iload 4, 2) := by decide +kernel
theorem dX1_findPair_29 : decode cX1_findPair 29 = .ok (.invokestatic 106, 3) := by decide +kernel
theorem dX1_findPair_32 : decode cX1_findPair 32 = .ok (.ifCond .eq 33, 3) := by decide +kernel
theorem dX1_findPair_35 : decode cX1_findPair 35 = .ok (.aload_n 0, 1) := by decide +kernel
theorem dX1_findPair_36 : decode cX1_findPair 36 = .ok (.getfield 16, 3) := by decide +kernel
theorem dX1_findPair_39 : decode cX1_findPair 39 = .ok (.iload_n 3, 1) := by decide +kernel
theorem dX1_findPair_40 : decode cX1_findPair 40 = .ok (.laload, 1) := by decide +kernel
theorem dX1_findPair_41 : decode cX1_findPair 41 = .ok (.aload_n 0, 1) := by decide +kernel
theorem dX1_findPair_42 : decode cX1_findPair 42 = .ok (.getfield 16, 3) := by decide +kernel
theorem dX1_findPair_45 : decode cX1_findPair 45 = .ok (.iload 4, 2) := by decide +kernel
theorem dX1_findPair_47 : decode cX1_findPair 47 = .ok (.laload, 1) := by decide +kernel
theorem dX1_findPair_48 : decode cX1_findPair 48 = .ok (.lcmp, 1) := by decide +kernel
theorem dX1_findPair_49 : decode cX1_findPair 49 = .ok (.ifCond .lt 16, 3) := by decide +kernel
theorem dX1_findPair_52 : decode cX1_findPair 52 = .ok (.aload_n 0, 1) := by decide +kernel
theorem dX1_findPair_53 : decode cX1_findPair 53 = .ok (.iload_n 3, 1) := by decide +kernel
theorem dX1_findPair_54 : decode cX1_findPair 54 = .ok (.putfield 20, 3) := by decide +kernel
theorem dX1_findPair_57 : decode cX1_findPair 57 = .ok (.aload_n 0, 1) := by decide +kernel
theorem dX1_findPair_58 : decode cX1_findPair 58 = .ok (.iload 4, 2) := by decide +kernel
theorem dX1_findPair_60 : decode cX1_findPair 60 = .ok (.putfield 24, 3) := by decide +kernel
theorem dX1_findPair_63 : decode cX1_findPair 63 = .ok (.iconst 1, 1) := by decide +kernel
theorem dX1_findPair_64 : decode cX1_findPair 64 = .ok (.ireturn, 1) := by decide +kernel
theorem dX1_findPair_65 : decode cX1_findPair 65 = .ok (.iinc 4 1, 3) := by decide +kernel
theorem dX1_findPair_68 : decode cX1_findPair 68 = .ok (.goto (-57), 3) := by decide +kernel
theorem dX1_findPair_71 : decode cX1_findPair 71 = .ok (.iinc 3 1, 3) := by decide +kernel
theorem dX1_findPair_74 : decode cX1_findPair 74 = .ok (.goto (-72), 3) := by decide +kernel
theorem dX1_findPair_77 : decode cX1_findPair 77 = .ok (.iconst 0, 1) := by decide +kernel
theorem dX1_findPair_78 : decode cX1_findPair 78 = .ok (.ireturn, 1) := by decide +kernel
theorem dX1_leastAboveAll_0 : decode cX1_leastAboveAll 0 = .ok (.ldc2_w 190, 3) := by decide +kernel
theorem dX1_leastAboveAll_3 : decode cX1_leastAboveAll 3 = .ok (.lstore_n 2, 1) := by decide +kernel
theorem dX1_leastAboveAll_4 : decode cX1_leastAboveAll 4 = .ok (.iconst 0, 1) := by decide +kernel
theorem dX1_leastAboveAll_5 : decode cX1_leastAboveAll 5 = .ok (.istore 4, 2) := by decide +kernel
theorem dX1_leastAboveAll_7 : decode cX1_leastAboveAll 7 = .ok (.iload 4, 2) := by decide +kernel
theorem dX1_leastAboveAll_9 : decode cX1_leastAboveAll 9 = .ok (.bipush 12, 2) := by decide +kernel
theorem dX1_leastAboveAll_11 : decode cX1_leastAboveAll 11 = .ok (.if_icmp .ge 32, 3) := by decide +kernel
theorem dX1_leastAboveAll_14 : decode cX1_leastAboveAll 14 = .ok (.iload_n 1, 1) := by decide +kernel
theorem dX1_leastAboveAll_15 : decode cX1_leastAboveAll 15 = .ok (.iload 4, 2) := by decide +kernel
theorem dX1_leastAboveAll_17 : decode cX1_leastAboveAll 17 = .ok (.invokestatic 106, 3) := by decide +kernel
theorem dX1_leastAboveAll_20 : decode cX1_leastAboveAll 20 = .ok (.ifCond .eq 17, 3) := by decide +kernel
theorem dX1_leastAboveAll_23 : decode cX1_leastAboveAll 23 = .ok (.lload_n 2, 1) := by decide +kernel
theorem dX1_leastAboveAll_24 : decode cX1_leastAboveAll 24 = .ok (.aload_n 0, 1) := by decide +kernel
theorem dX1_leastAboveAll_25 : decode cX1_leastAboveAll 25 = .ok (.getfield 16, 3) := by decide +kernel
theorem dX1_leastAboveAll_28 : decode cX1_leastAboveAll 28 = .ok (.iload 4, 2) := by decide +kernel
theorem dX1_leastAboveAll_30 : decode cX1_leastAboveAll 30 = .ok (.laload, 1) := by decide +kernel
theorem dX1_leastAboveAll_31 : decode cX1_leastAboveAll 31 = .ok (.lconst 1, 1) := by decide +kernel
theorem dX1_leastAboveAll_32 : decode cX1_leastAboveAll 32 = .ok (.ladd, 1) := by decide +kernel
theorem dX1_leastAboveAll_33 : decode cX1_leastAboveAll 33 = .ok (.invokestatic 192, 3) := by decide +kernel
theorem dX1_leastAboveAll_36 : decode cX1_leastAboveAll 36 = .ok (.lstore_n 2, 1) := by decide +kernel
theorem dX1_leastAboveAll_37 : decode cX1_leastAboveAll 37 = .ok (.iinc 4 1, 3) := by decide +kernel
theorem dX1_leastAboveAll_40 : decode cX1_leastAboveAll 40 = .ok (.goto (-33), 3) := by decide +kernel
theorem dX1_leastAboveAll_43 : decode cX1_leastAboveAll 43 = .ok (.lload_n 2, 1) := by decide +kernel
theorem dX1_leastAboveAll_44 : decode cX1_leastAboveAll 44 = .ok (.lreturn, 1) := by decide +kernel
theorem dX1_greatestBelowAll_0 : decode cX1_greatestBelowAll 0 = .ok (.ldc2_w 159, 3) := by decide +kernel
theorem dX1_greatestBelowAll_3 : decode cX1_greatestBelowAll 3 = .ok (.lstore_n 2, 1) := by decide +kernel
theorem dX1_greatestBelowAll_4 : decode cX1_greatestBelowAll 4 = .ok (.iconst 0, 1) := by decide +kernel
theorem dX1_greatestBelowAll_5 : decode cX1_greatestBelowAll 5 = .ok (.istore 4, 2) := by decide +kernel
theorem dX1_greatestBelowAll_7 : decode cX1_greatestBelowAll 7 = .ok (.iload 4, 2) := by decide +kernel
theorem dX1_greatestBelowAll_9 : decode cX1_greatestBelowAll 9 = .ok (.bipush 12, 2) := by decide +kernel
theorem dX1_greatestBelowAll_11 : decode cX1_greatestBelowAll 11 = .ok (.if_icmp .ge 32, 3) := by decide +kernel
theorem dX1_greatestBelowAll_14 : decode cX1_greatestBelowAll 14 = .ok (.iload_n 1, 1) := by decide +kernel
theorem dX1_greatestBelowAll_15 : decode cX1_greatestBelowAll 15 = .ok (.iload 4, 2) := by decide +kernel
theorem dX1_greatestBelowAll_17 : decode cX1_greatestBelowAll 17 = .ok (.invokestatic 106, 3) := by decide +kernel
theorem dX1_greatestBelowAll_20 : decode cX1_greatestBelowAll 20 = .ok (.ifCond .eq 17, 3) := by decide +kernel
theorem dX1_greatestBelowAll_23 : decode cX1_greatestBelowAll 23 = .ok (.lload_n 2, 1) := by decide +kernel
theorem dX1_greatestBelowAll_24 : decode cX1_greatestBelowAll 24 = .ok (.aload_n 0, 1) := by decide +kernel
theorem dX1_greatestBelowAll_25 : decode cX1_greatestBelowAll 25 = .ok (.getfield 16, 3) := by decide +kernel
theorem dX1_greatestBelowAll_28 : decode cX1_greatestBelowAll 28 = .ok (.iload 4, 2) := by decide +kernel
theorem dX1_greatestBelowAll_30 : decode cX1_greatestBelowAll 30 = .ok (.laload, 1) := by decide +kernel
theorem dX1_greatestBelowAll_31 : decode cX1_greatestBelowAll 31 = .ok (.lconst 1, 1) := by decide +kernel
theorem dX1_greatestBelowAll_32 : decode cX1_greatestBelowAll 32 = .ok (.lsub, 1) := by decide +kernel
theorem dX1_greatestBelowAll_33 : decode cX1_greatestBelowAll 33 = .ok (.invokestatic 195, 3) := by decide +kernel
theorem dX1_greatestBelowAll_36 : decode cX1_greatestBelowAll 36 = .ok (.lstore_n 2, 1) := by decide +kernel
theorem dX1_greatestBelowAll_37 : decode cX1_greatestBelowAll 37 = .ok (.iinc 4 1, 3) := by decide +kernel
theorem dX1_greatestBelowAll_40 : decode cX1_greatestBelowAll 40 = .ok (.goto (-33), 3) := by decide +kernel
theorem dX1_greatestBelowAll_43 : decode cX1_greatestBelowAll 43 = .ok (.lload_n 2, 1) := by decide +kernel
theorem dX1_greatestBelowAll_44 : decode cX1_greatestBelowAll 44 = .ok (.lreturn, 1) := by decide +kernel
theorem dX1_countLess_0 : decode cX1_countLess 0 = .ok (.iconst 0, 1) := by decide +kernel
theorem dX1_countLess_1 : decode cX1_countLess 1 = .ok (.istore_n 3, 1) := by decide +kernel
theorem dX1_countLess_2 : decode cX1_countLess 2 = .ok (.iconst 0, 1) := by decide +kernel
theorem dX1_countLess_3 : decode cX1_countLess 3 = .ok (.istore 4, 2) := by decide +kernel
theorem dX1_countLess_5 : decode cX1_countLess 5 = .ok (.iload 4, 2) := by decide +kernel
theorem dX1_countLess_7 : decode cX1_countLess 7 = .ok (.aload_n 0, 1) := by decide +kernel
theorem dX1_countLess_8 : decode cX1_countLess 8 = .ok (.getfield 9, 3) := by decide +kernel
theorem dX1_countLess_11 : decode cX1_countLess 11 = .ok (.iload_n 1, 1) := by decide +kernel
theorem dX1_countLess_12 : decode cX1_countLess 12 = .ok (.iaload, 1) := by decide +kernel
theorem dX1_countLess_13 : decode cX1_countLess 13 = .ok (.if_icmp .ge 38, 3) := by decide +kernel
theorem dX1_countLess_16 : decode cX1_countLess 16 = .ok (.iload 4, 2) := by decide +kernel
theorem dX1_countLess_18 : decode cX1_countLess 18 = .ok (.iload_n 2, 1) := by decide +kernel
theorem dX1_countLess_19 : decode cX1_countLess 19 = .ok (.if_icmp .gt 32, 3) := by decide +kernel
theorem dX1_countLess_22 : decode cX1_countLess 22 = .ok (.aload_n 0, 1) := by decide +kernel
theorem dX1_countLess_23 : decode cX1_countLess 23 = .ok (.getfield 13, 3) := by decide +kernel
theorem dX1_countLess_26 : decode cX1_countLess 26 = .ok (.iload_n 1, 1) := by decide +kernel
theorem dX1_countLess_27 : decode cX1_countLess 27 = .ok (.iaload, 1) := by decide +kernel
theorem dX1_countLess_28 : decode cX1_countLess 28 = .ok (.iload 4, 2) := by decide +kernel
theorem dX1_countLess_30 : decode cX1_countLess 30 = .ok (.invokestatic 57, 3) := by decide +kernel
theorem dX1_countLess_33 : decode cX1_countLess 33 = .ok (.ifCond .eq 12, 3) := by decide +kernel
theorem dX1_countLess_36 : decode cX1_countLess 36 = .ok (.iload_n 3, 1) := by decide +kernel
theorem dX1_countLess_37 : decode cX1_countLess 37 = .ok (.iconst 1, 1) := by decide +kernel
theorem dX1_countLess_38 : decode cX1_countLess 38 = .ok (.iload_n 2, 1) := by decide +kernel
theorem dX1_countLess_39 : decode cX1_countLess 39 = .ok (.iload 4, 2) := by decide +kernel
theorem dX1_countLess_41 : decode cX1_countLess 41 = .ok (.isub, 1) := by decide +kernel
theorem dX1_countLess_42 : decode cX1_countLess 42 = .ok (.ishl, 1) := by decide +kernel
theorem dX1_countLess_43 : decode cX1_countLess 43 = .ok (.iadd, 1) := by decide +kernel
theorem dX1_countLess_44 : decode cX1_countLess 44 = .ok (.istore_n 3, 1) := by decide +kernel
theorem dX1_countLess_45 : decode cX1_countLess 45 = .ok (.iinc 4 1, 3) := by decide +kernel
theorem dX1_countLess_48 : decode cX1_countLess 48 = .ok (.goto (-43), 3) := by decide +kernel
theorem dX1_countLess_51 : decode cX1_countLess 51 = .ok (.aload_n 0, 1) := by decide +kernel
theorem dX1_countLess_52 : decode cX1_countLess 52 = .ok (.getfield 9, 3) := by decide +kernel
theorem dX1_countLess_55 : decode cX1_countLess 55 = .ok (.iload_n 1, 1) := by decide +kernel
theorem dX1_countLess_56 : decode cX1_countLess 56 = .ok (.iaload, 1) := by decide +kernel
theorem dX1_countLess_57 : decode cX1_countLess 57 = .ok (.iload_n 2, 1) := by decide +kernel
theorem dX1_countLess_58 : decode cX1_countLess 58 = .ok (.if_icmp .gt 17, 3) := by decide +kernel
theorem dX1_countLess_61 : decode cX1_countLess 61 = .ok (.iload_n 3, 1) := by decide +kernel
theorem dX1_countLess_62 : decode cX1_countLess 62 = .ok (.iload_n 2, 1) := by decide +kernel
theorem dX1_countLess_63 : decode cX1_countLess 63 = .ok (.aload_n 0, 1) := by decide +kernel
theorem dX1_countLess_64 : decode cX1_countLess 64 = .ok (.getfield 9, 3) := by decide +kernel
theorem dX1_countLess_67 : decode cX1_countLess 67 = .ok (.iload_n 1, 1) := by decide +kernel
theorem dX1_countLess_68 : decode cX1_countLess 68 = .ok (.iaload, 1) := by decide +kernel
theorem dX1_countLess_69 : decode cX1_countLess 69 = .ok (.isub, 1) := by decide +kernel
theorem dX1_countLess_70 : decode cX1_countLess 70 = .ok (.invokestatic 75, 3) := by decide +kernel
theorem dX1_countLess_73 : decode cX1_countLess 73 = .ok (.iadd, 1) := by decide +kernel
theorem dX1_countLess_74 : decode cX1_countLess 74 = .ok (.istore_n 3, 1) := by decide +kernel
theorem dX1_countLess_75 : decode cX1_countLess 75 = .ok (.iload_n 3, 1) := by decide +kernel
theorem dX1_countLess_76 : decode cX1_countLess 76 = .ok (.ireturn, 1) := by decide +kernel
theorem dX1_divideOnce_0 : decode cX1_divideOnce 0 = .ok (.iload_n 3, 1) := by decide +kernel
theorem dX1_divideOnce_1 : decode cX1_divideOnce 1 = .ok (.iload_n 2, 1) := by decide +kernel
theorem dX1_divideOnce_2 : decode cX1_divideOnce 2 = .ok (.isub, 1) := by decide +kernel
theorem dX1_divideOnce_3 : decode cX1_divideOnce 3 = .ok (.istore 4, 2) := by decide +kernel
theorem dX1_divideOnce_5 : decode cX1_divideOnce 5 = .ok (.aload_n 0, 1) := by decide +kernel
theorem dX1_divideOnce_6 : decode cX1_divideOnce 6 = .ok (.getfield 38, 3) := by decide +kernel
theorem dX1_divideOnce_9 : decode cX1_divideOnce 9 = .ok (.getfield 120, 3) := by decide +kernel
theorem dX1_divideOnce_12 : decode cX1_divideOnce 12 = .ok (.iload_n 3, 1) := by decide +kernel
theorem dX1_divideOnce_13 : decode cX1_divideOnce 13 = .ok (.laload, 1) := by decide +kernel
theorem dX1_divideOnce_14 : decode cX1_divideOnce 14 = .ok (.aload_n 1, 1) := by decide +kernel
theorem dX1_divideOnce_15 : decode cX1_divideOnce 15 = .ok (.getfield 120, 3) := by decide +kernel
theorem dX1_divideOnce_18 : decode cX1_divideOnce 18 = .ok (.iload_n 2, 1) := by decide +kernel
theorem dX1_divideOnce_19 : decode cX1_divideOnce 19 = .ok (.laload, 1) := by decide +kernel
theorem dX1_divideOnce_20 : decode cX1_divideOnce 20 = .ok (.invokestatic 198, 3) := by decide +kernel
theorem dX1_divideOnce_23 : decode cX1_divideOnce 23 = .ok (.lstore 5, 2) := by decide +kernel
theorem dX1_divideOnce_25 : decode cX1_divideOnce 25 = .ok (.aload_n 0, 1) := by decide +kernel
theorem dX1_divideOnce_26 : decode cX1_divideOnce 26 = .ok (.getfield 34, 3) := by decide +kernel
theorem dX1_divideOnce_29 : decode cX1_divideOnce 29 = .ok (.iload 4, 2) := by decide +kernel
theorem dX1_divideOnce_31 : decode cX1_divideOnce 31 = .ok (.lload 5, 2) := by decide +kernel
theorem dX1_divideOnce_33 : decode cX1_divideOnce 33 = .ok (.invokevirtual 201, 3) := by decide +kernel
theorem dX1_divideOnce_36 : decode cX1_divideOnce 36 = .ok (.ifCond .eq 23, 3) := by decide +kernel
theorem dX1_divideOnce_39 : decode cX1_divideOnce 39 = .ok (.aload_n 0, 1) := by decide +kernel
theorem dX1_divideOnce_40 : decode cX1_divideOnce 40 = .ok (.getfield 38, 3) := by decide +kernel
theorem dX1_divideOnce_43 : decode cX1_divideOnce 43 = .ok (.iload 4, 2) := by decide +kernel
theorem dX1_divideOnce_45 : decode cX1_divideOnce 45 = .ok (.lload 5, 2) := by decide +kernel
theorem dX1_divideOnce_47 : decode cX1_divideOnce 47 = .ok (.lneg, 1) := by decide +kernel
theorem dX1_divideOnce_48 : decode cX1_divideOnce 48 = .ok (.aload_n 1, 1) := by decide +kernel
theorem dX1_divideOnce_49 : decode cX1_divideOnce 49 = .ok (.invokevirtual 205, 3) := by decide +kernel
theorem dX1_divideOnce_52 : decode cX1_divideOnce 52 = .ok (.ifCond .eq 7, 3) := by decide +kernel
theorem dX1_divideOnce_55 : decode cX1_divideOnce 55 = .ok (.iconst 1, 1) := by decide +kernel
theorem dX1_divideOnce_56 : decode cX1_divideOnce 56 = .ok (.goto 4, 3) := by decide +kernel
theorem dX1_divideOnce_59 : decode cX1_divideOnce 59 = .ok (.iconst 0, 1) := by decide +kernel
theorem dX1_divideOnce_60 : decode cX1_divideOnce 60 = .ok (.ireturn, 1) := by decide +kernel
theorem dX2_init_0 : decode cX2_init 0 = .ok (.aload_n 0, 1) := by decide +kernel
theorem dX2_init_1 : decode cX2_init 1 = .ok (.invokespecial 1, 3) := by decide +kernel
theorem dX2_init_4 : decode cX2_init 4 = .ok (.aload_n 0, 1) := by decide +kernel
theorem dX2_init_5 : decode cX2_init 5 = .ok (.bipush 12, 2) := by decide +kernel
theorem dX2_init_7 : decode cX2_init 7 = .ok (.newarray .int, 2) := by decide +kernel
theorem dX2_init_9 : decode cX2_init 9 = .ok (.putfield 7, 3) := by decide +kernel
theorem dX2_init_12 : decode cX2_init 12 = .ok (.aload_n 0, 1) := by decide +kernel
theorem dX2_init_13 : decode cX2_init 13 = .ok (.bipush 12, 2) := by decide +kernel
theorem dX2_init_15 : decode cX2_init 15 = .ok (.newarray .int, 2) := by decide +kernel
theorem dX2_init_17 : decode cX2_init 17 = .ok (.putfield 13, 3) := by decide +kernel
theorem dX2_init_20 : decode cX2_init 20 = .ok (.aload_n 0, 1) := by decide +kernel
theorem dX2_init_21 : decode cX2_init 21 = .ok (.bipush (-4), 2) := by decide +kernel
theorem dX2_init_23 : decode cX2_init 23 = .ok (.putfield 16, 3) := by decide +kernel
theorem dX2_init_26 : decode cX2_init 26 = .ok (.aload_n 0, 1) := by decide +kernel
theorem dX2_init_27 : decode cX2_init 27 = .ok (.bipush (-4), 2) := by decide +kernel
theorem dX2_init_29 : decode cX2_init 29 = .ok (.putfield 20, 3) := by decide +kernel
theorem dX2_init_32 : decode cX2_init 32 = .ok (.aload_n 0, 1) := by decide +kernel
theorem dX2_init_33 : decode cX2_init 33 = .ok (.sipush 130, 3) := by decide +kernel
theorem dX2_init_36 : decode cX2_init 36 = .ok (.newarray .long, 2) := by decide +kernel
theorem dX2_init_38 : decode cX2_init 38 = .ok (.putfield 23, 3) := by decide +kernel
theorem dX2_init_41 : decode cX2_init 41 = .ok (.aload_n 0, 1) := by decide +kernel
theorem dX2_init_42 : decode cX2_init 42 = .ok (.sipush 130, 3) := by decide +kernel
theorem dX2_init_45 : decode cX2_init 45 = .ok (.newarray .int, 2) := by decide +kernel
theorem dX2_init_47 : decode cX2_init 47 = .ok (.putfield 27, 3) := by decide +kernel
theorem dX2_init_50 : decode cX2_init 50 = .ok (.return_, 1) := by decide +kernel
theorem dX2_in_0 : decode cX2_in 0 = .ok (.lload_n 0, 1) := by decide +kernel
theorem dX2_in_1 : decode cX2_in 1 = .ok (.lload_n 2, 1) := by decide +kernel
theorem dX2_in_2 : decode cX2_in 2 = .ok (.lcmp, 1) := by decide +kernel
theorem dX2_in_3 : decode cX2_in 3 = .ok (.ifCond .lt 14, 3) := by decide +kernel
theorem dX2_in_6 : decode cX2_in 6 = .ok (.lload_n 0, 1) := by decide +kernel
theorem dX2_in_7 : decode cX2_in 7 = .ok (.lload 4, 2) := by decide +kernel
theorem dX2_in_9 : decode cX2_in 9 = .ok (.lcmp, 1) := by decide +kernel
theorem dX2_in_10 : decode cX2_in 10 = .ok (.ifCond .gt 7, 3) := by decide +kernel
theorem dX2_in_13 : decode cX2_in 13 = .ok (.iconst 1, 1) := by decide +kernel
theorem dX2_in_14 : decode cX2_in 14 = .ok (.goto 4, 3) := by decide +kernel
theorem dX2_in_17 : decode cX2_in 17 = .ok (.iconst 0, 1) := by decide +kernel
theorem dX2_in_18 : decode cX2_in 18 = .ok (.ireturn, 1) := by decide +kernel
theorem dX2_isRegister_0 : decode cX2_isRegister 0 = .ok (.iload_n 0, 1) := by decide +kernel
theorem dX2_isRegister_1 : decode cX2_isRegister 1 = .ok (.i2l, 1) := by decide +kernel
theorem dX2_isRegister_2 : decode cX2_isRegister 2 = .ok (.lconst 0, 1) := by decide +kernel
theorem dX2_isRegister_3 : decode cX2_isRegister 3 = .ok (.ldc2_w 30, 3) := by decide +kernel
theorem dX2_isRegister_6 : decode cX2_isRegister 6 = .ok (.invokestatic 32, 3) := by decide +kernel
theorem dX2_isRegister_9 : decode cX2_isRegister 9 = .ok (.ireturn, 1) := by decide +kernel
theorem dX2_worth_0 : decode cX2_worth 0 = .ok (.lconst 0, 1) := by decide +kernel
theorem dX2_worth_1 : decode cX2_worth 1 = .ok (.lstore_n 2, 1) := by decide +kernel
theorem dX2_worth_2 : decode cX2_worth 2 = .ok (.ldc2_w 36, 3) := by decide +kernel
theorem dX2_worth_5 : decode cX2_worth 5 = .ok (.lstore 4, 2) := by decide +kernel
theorem dX2_worth_7 : decode cX2_worth 7 = .ok (.iconst 1, 1) := by decide +kernel
theorem dX2_worth_8 : decode cX2_worth 8 = .ok (.istore 6, 2) := by decide +kernel
theorem dX2_worth_10 : decode cX2_worth 10 = .ok (.iconst 0, 1) := by decide +kernel
theorem dX2_worth_11 : decode cX2_worth 11 = .ok (.istore 7, 2) := by decide +kernel
theorem dX2_worth_13 : decode cX2_worth 13 = .ok (.iload 7, 2) := by decide +kernel
theorem dX2_worth_15 : decode cX2_worth 15 = .ok (.iload_n 1, 1) := by decide +kernel
theorem dX2_worth_16 : decode cX2_worth 16 = .ok (.if_icmp .ge 90, 3) := by decide +kernel
theorem dX2_worth_19 : decode cX2_worth 19 = .ok (.iload_n 0, 1) := by decide +kernel
theorem dX2_worth_20 : decode cX2_worth 20 = .ok (.iload 7, 2) := by decide +kernel
theorem dX2_worth_22 : decode cX2_worth 22 = .ok (.ishr, 1) := by decide +kernel
theorem dX2_worth_23 : decode cX2_worth 23 = .ok (.iconst 1, 1) := by decide +kernel
theorem dX2_worth_24 : decode cX2_worth 24 = .ok (.iand, 1) := by decide +kernel
theorem dX2_worth_25 : decode cX2_worth 25 = .ok (.iconst 1, 1) := by decide +kernel
theorem dX2_worth_26 : decode cX2_worth 26 = .ok (.if_icmp .ne 7, 3) := by decide +kernel
theorem dX2_worth_29 : decode cX2_worth 29 = .ok (.iconst 1, 1) := by decide +kernel
theorem dX2_worth_30 : decode cX2_worth 30 = .ok (.goto 4, 3) := by decide +kernel
theorem dX2_worth_33 : decode cX2_worth 33 = .ok (.iconst 0, 1) := by decide +kernel
theorem dX2_worth_34 : decode cX2_worth 34 = .ok (.istore 8, 2) := by decide +kernel
theorem dX2_worth_36 : decode cX2_worth 36 = .ok (.iload 6, 2) := by decide +kernel
theorem dX2_worth_38 : decode cX2_worth 38 = .ok (.ifCond .eq 24, 3) := by decide +kernel
theorem dX2_worth_41 : decode cX2_worth 41 = .ok (.iload 8, 2) := by decide +kernel
theorem dX2_worth_43 : decode cX2_worth 43 = .ok (.iload_n 0, 1) := by decide +kernel
theorem dX2_worth_44 : decode cX2_worth 44 = .ok (.iconst 1, 1) := by decide +kernel
theorem dX2_worth_45 : decode cX2_worth 45 = .ok (.iand, 1) := by decide +kernel
theorem dX2_worth_46 : decode cX2_worth 46 = .ok (.iconst 1, 1) := by decide +kernel
theorem dX2_worth_47 : decode cX2_worth 47 = .ok (.if_icmp .ne 7, 3) := by decide +kernel
theorem dX2_worth_50 : decode cX2_worth 50 = .ok (.iconst 1, 1) := by decide +kernel
theorem dX2_worth_51 : decode cX2_worth 51 = .ok (.goto 4, 3) := by decide +kernel
theorem dX2_worth_54 : decode cX2_worth 54 = .ok (.iconst 0, 1) := by decide +kernel
theorem dX2_worth_55 : decode cX2_worth 55 = .ok (.if_icmp .ne 7, 3) := by decide +kernel
theorem dX2_worth_58 : decode cX2_worth 58 = .ok (.iconst 1, 1) := by decide +kernel
theorem dX2_worth_59 : decode cX2_worth 59 = .ok (.goto 4, 3) := by decide +kernel
theorem dX2_worth_62 : decode cX2_worth 62 = .ok (.iconst 0, 1) := by decide +kernel
theorem dX2_worth_63 : decode cX2_worth 63 = .ok (.istore 6, 2) := by decide +kernel
theorem dX2_worth_65 : decode cX2_worth 65 = .ok (.iload 6, 2) := by decide +kernel
theorem dX2_worth_67 : decode cX2_worth 67 = .ok (.ifCond .eq 9, 3) := by decide +kernel
theorem dX2_worth_70 : decode cX2_worth 70 = .ok (.ldc2_w 36, 3) := by decide +kernel
theorem dX2_worth_73 : decode cX2_worth 73 = .ok (.goto 9, 3) := by decide +kernel
theorem dX2_worth_76 : decode cX2_worth 76 = .ok (.lload 4, 2) := by decide +kernel
theorem dX2_worth_78 : decode cX2_worth 78 = .ok (.ldc2_w 38, 3) := by decide +kernel
theorem dX2_worth_81 : decode cX2_worth 81 = .ok (.ldiv, 1) := by decide +kernel
theorem dX2_worth_82 : decode cX2_worth 82 = .ok (.lstore 4, 2) := by decide +kernel
theorem dX2_worth_84 : decode cX2_worth 84 = .ok (.lload_n 2, 1) := by decide +kernel
theorem dX2_worth_85 : decode cX2_worth 85 = .ok (.iload 8, 2) := by decide +kernel
theorem dX2_worth_87 : decode cX2_worth 87 = .ok (.ifCond .eq 8, 3) := by decide +kernel
theorem dX2_worth_90 : decode cX2_worth 90 = .ok (.lload 4, 2) := by decide +kernel
theorem dX2_worth_92 : decode cX2_worth 92 = .ok (.goto 6, 3) := by decide +kernel
theorem dX2_worth_95 : decode cX2_worth 95 = .ok (.lload 4, 2) := by decide +kernel
theorem dX2_worth_97 : decode cX2_worth 97 = .ok (.lneg, 1) := by decide +kernel
theorem dX2_worth_98 : decode cX2_worth 98 = .ok (.ladd, 1) := by decide +kernel
theorem dX2_worth_99 : decode cX2_worth 99 = .ok (.lstore_n 2, 1) := by decide +kernel
theorem dX2_worth_100 : decode cX2_worth 100 = .ok (.iinc 7 1, 3) := by decide +kernel
theorem dX2_worth_103 : decode cX2_worth 103 = .ok (.goto (-90), 3) := by decide +kernel
theorem dX2_worth_106 : decode cX2_worth 106 = .ok (.lload_n 2, 1) := by decide +kernel
theorem dX2_worth_107 : decode cX2_worth 107 = .ok (.lreturn, 1) := by decide +kernel
theorem dX2_worthOf_0 : decode cX2_worthOf 0 = .ok (.aload_n 0, 1) := by decide +kernel
theorem dX2_worthOf_1 : decode cX2_worthOf 1 = .ok (.getfield 13, 3) := by decide +kernel
theorem dX2_worthOf_4 : decode cX2_worthOf 4 = .ok (.iload_n 1, 1) := by decide +kernel
theorem dX2_worthOf_5 : decode cX2_worthOf 5 = .ok (.iaload, 1) := by decide +kernel
theorem dX2_worthOf_6 : decode cX2_worthOf 6 = .ok (.aload_n 0, 1) := by decide +kernel
theorem dX2_worthOf_7 : decode cX2_worthOf 7 = .ok (.getfield 7, 3) := by decide +kernel
theorem dX2_worthOf_10 : decode cX2_worthOf 10 = .ok (.iload_n 1, 1) := by decide +kernel
theorem dX2_worthOf_11 : decode cX2_worthOf 11 = .ok (.iaload, 1) := by decide +kernel
theorem dX2_worthOf_12 : decode cX2_worthOf 12 = .ok (.invokestatic 40, 3) := by decide +kernel
theorem dX2_worthOf_15 : decode cX2_worthOf 15 = .ok (.lreturn, 1) := by decide +kernel
theorem dX2_finds_0 : decode cX2_finds 0 = .ok (.aload_n 0, 1) := by decide +kernel
theorem dX2_finds_1 : decode cX2_finds 1 = .ok (.iconst 0, 1) := by decide +kernel
theorem dX2_finds_2 : decode cX2_finds 2 = .ok (.putfield 44, 3) := by decide +kernel
theorem dX2_finds_5 : decode cX2_finds 5 = .ok (.aload_n 0, 1) := by decide +kernel
theorem dX2_finds_6 : decode cX2_finds 6 = .ok (.iconst 0, 1) := by decide +kernel
theorem dX2_finds_7 : decode cX2_finds 7 = .ok (.putfield 47, 3) := by decide +kernel
theorem dX2_finds_10 : decode cX2_finds 10 = .ok (.lconst 0, 1) := by decide +kernel
theorem dX2_finds_11 : decode cX2_finds 11 = .ok (.lstore 7, 2) := by decide +kernel
theorem dX2_finds_13 : decode cX2_finds 13 = .ok (.iload_n 1, 1) := by decide +kernel
theorem dX2_finds_14 : decode cX2_finds 14 = .ok (.ifCond .eq 10, 3) := by decide +kernel
theorem dX2_finds_17 : decode cX2_finds 17 = .ok (.lload 7, 2) := by decide +kernel
theorem dX2_finds_19 : decode cX2_finds 19 = .ok (.lload_n 2, 1) := by decide +kernel
theorem dX2_finds_20 : decode cX2_finds 20 = .ok (.lcmp, 1) := by decide +kernel
theorem dX2_finds_21 : decode cX2_finds 21 = .ok (.ifCond .le 16, 3) := by decide +kernel
theorem dX2_finds_24 : decode cX2_finds 24 = .ok (.iload 4, 2) := by decide +kernel
theorem dX2_finds_26 : decode cX2_finds 26 = .ok (.ifCond .eq 74, 3) := by decide +kernel
theorem dX2_finds_29 : decode cX2_finds 29 = .ok (.lload 7, 2) := by decide +kernel
theorem dX2_finds_31 : decode cX2_finds 31 = .ok (.lload 5, 2) := by decide +kernel
theorem dX2_finds_33 : decode cX2_finds 33 = .ok (.lcmp, 1) := by decide +kernel
theorem dX2_finds_34 : decode cX2_finds 34 = .ok (.ifCond .lt 66, 3) := by decide +kernel
theorem dX2_finds_37 : decode cX2_finds 37 = .ok (.aload_n 0, 1) := by decide +kernel
theorem dX2_finds_38 : decode cX2_finds 38 = .ok (.getfield 44, 3) := by decide +kernel
theorem dX2_finds_41 : decode cX2_finds 41 = .ok (.bipush 24, 2) := by decide +kernel
theorem dX2_finds_43 : decode cX2_finds 43 = .ok (.if_icmp .ne 5, 3) := by decide +kernel
theorem dX2_finds_46 : decode cX2_finds 46 = .ok (.iconst 0, 1) := by decide +kernel
theorem dX2_finds_47 : decode cX2_finds 47 = .ok (.ireturn, 1) := by decide +kernel
theorem dX2_finds_48 : decode cX2_finds 48 = .ok (.iload_n 1, 1) := by decide +kernel
theorem dX2_finds_49 : decode cX2_finds 49 = .ok (.ifCond .eq 25, 3) := by decide +kernel
theorem dX2_finds_52 : decode cX2_finds 52 = .ok (.lload 7, 2) := by decide +kernel
theorem dX2_finds_54 : decode cX2_finds 54 = .ok (.lload_n 2, 1) := by decide +kernel
theorem dX2_finds_55 : decode cX2_finds 55 = .ok (.lcmp, 1) := by decide +kernel
theorem dX2_finds_56 : decode cX2_finds 56 = .ok (.ifCond .gt 18, 3) := by decide +kernel
theorem dX2_finds_59 : decode cX2_finds 59 = .ok (.aload_n 0, 1) := by decide +kernel
theorem dX2_finds_60 : decode cX2_finds 60 = .ok (.dup, 1) := by decide +kernel
theorem dX2_finds_61 : decode cX2_finds 61 = .ok (.getfield 47, 3) := by decide +kernel
theorem dX2_finds_64 : decode cX2_finds 64 = .ok (.iconst 1, 1) := by decide +kernel
theorem dX2_finds_65 : decode cX2_finds 65 = .ok (.aload_n 0, 1) := by decide +kernel
theorem dX2_finds_66 : decode cX2_finds 66 = .ok (.getfield 44, 3) := by decide +kernel
theorem dX2_finds_69 : decode cX2_finds 69 = .ok (.ishl, 1) := by decide +kernel
theorem dX2_finds_70 : decode cX2_finds 70 = .ok (.ior, 1) := by decide +kernel
theorem dX2_finds_71 : decode cX2_finds 71 = .ok (.putfield 47, 3) := by decide +kernel
theorem dX2_finds_74 : decode cX2_finds 74 = .ok (.aload_n 0, 1) := by decide +kernel
theorem dX2_finds_75 : decode cX2_finds 75 = .ok (.dup, 1) := by decide +kernel
theorem dX2_finds_76 : decode cX2_finds 76 = .ok (.getfield 44, 3) := by decide +kernel
theorem dX2_finds_79 : decode cX2_finds 79 = .ok (.iconst 1, 1) := by decide +kernel
theorem dX2_finds_80 : decode cX2_finds 80 = .ok (.iadd, 1) := by decide +kernel
theorem dX2_finds_81 : decode cX2_finds 81 = .ok (.putfield 44, 3) := by decide +kernel
theorem dX2_finds_84 : decode cX2_finds 84 = .ok (.aload_n 0, 1) := by decide +kernel
theorem dX2_finds_85 : decode cX2_finds 85 = .ok (.getfield 47, 3) := by decide +kernel
theorem dX2_finds_88 : decode cX2_finds 88 = .ok (.aload_n 0, 1) := by decide +kernel
theorem dX2_finds_89 : decode cX2_finds 89 = .ok (.getfield 44, 3) := by decide +kernel
theorem dX2_finds_92 : decode cX2_finds 92 = .ok (.invokestatic 40, 3) := by decide +kernel
theorem dX2_finds_95 : decode cX2_finds 95 = .ok (.lstore 7, 2) := by decide +kernel
theorem dX2_finds_97 : decode cX2_finds 97 = .ok (.goto (-84), 3) := by decide +kernel
theorem dX2_finds_100 : decode cX2_finds 100 = .ok (.iconst 1, 1) := by decide +kernel
theorem dX2_finds_101 : decode cX2_finds 101 = .ok (.ireturn, 1) := by decide +kernel
theorem dX2_has_0 : decode cX2_has 0 = .ok (.lload_n 1, 1) := by decide +kernel
theorem dX2_has_1 : decode cX2_has 1 = .ok (.lstore 4, 2) := by decide +kernel
theorem dX2_has_3 : decode cX2_has 3 = .ok (.iload_n 3, 1) := by decide +kernel
theorem dX2_has_4 : decode cX2_has 4 = .ok (.istore 6, 2) := by decide +kernel
theorem dX2_has_6 : decode cX2_has 6 = .ok (.iload 6, 2) := by decide +kernel
theorem dX2_has_8 : decode cX2_has 8 = .ok (.ifCond .le 28, 3) := by decide +kernel
theorem dX2_has_11 : decode cX2_has 11 = .ok (.lload 4, 2) := by decide +kernel
theorem dX2_has_13 : decode cX2_has 13 = .ok (.ldc2_w 38, 3) := by decide +kernel
theorem dX2_has_16 : decode cX2_has 16 = .ok (.lrem, 1) := by decide +kernel
theorem dX2_has_17 : decode cX2_has 17 = .ok (.lconst 0, 1) := by decide +kernel
theorem dX2_has_18 : decode cX2_has 18 = .ok (.lcmp, 1) := by decide +kernel
theorem dX2_has_19 : decode cX2_has 19 = .ok (.ifCond .ne 17, 3) := by decide +kernel
theorem dX2_has_22 : decode cX2_has 22 = .ok (.lload 4, 2) := by decide +kernel
theorem dX2_has_24 : decode cX2_has 24 = .ok (.ldc2_w 38, 3) := by decide +kernel
theorem dX2_has_27 : decode cX2_has 27 = .ok (.ldiv, 1) := by decide +kernel
theorem dX2_has_28 : decode cX2_has 28 = .ok (.lstore 4, 2) := by decide +kernel
theorem dX2_has_30 : decode cX2_has 30 = .ok (.iinc 6 (-1), 3) := by decide +kernel
theorem dX2_has_33 : decode cX2_has 33 = .ok (.goto (-27), 3) := by decide +kernel
theorem dX2_has_36 : decode cX2_has 36 = .ok (.iload 6, 2) := by decide +kernel
theorem dX2_has_38 : decode cX2_has 38 = .ok (.bipush 23, 2) := by decide +kernel
theorem dX2_has_40 : decode cX2_has 40 = .ok (.if_icmp .gt 28, 3) := by decide +kernel
theorem dX2_has_43 : decode cX2_has 43 = .ok (.lload 4, 2) := by decide +kernel
theorem dX2_has_45 : decode cX2_has 45 = .ok (.ldc2_w 50, 3) := by decide +kernel
theorem dX2_has_48 : decode cX2_has 48 = .ok (.iload 6, 2) := by decide +kernel
theorem dX2_has_50 : decode cX2_has 50 = .ok (.lshl, 1) := by decide +kernel
theorem dX2_has_51 : decode cX2_has 51 = .ok (.lcmp, 1) := by decide +kernel
theorem dX2_has_52 : decode cX2_has 52 = .ok (.ifCond .gt 16, 3) := by decide +kernel
theorem dX2_has_55 : decode cX2_has 55 = .ok (.lload 4, 2) := by decide +kernel
theorem dX2_has_57 : decode cX2_has 57 = .ok (.ldc2_w 50, 3) := by decide +kernel
theorem dX2_has_60 : decode cX2_has 60 = .ok (.iload 6, 2) := by decide +kernel
theorem dX2_has_62 : decode cX2_has 62 = .ok (.lshl, 1) := by decide +kernel
theorem dX2_has_63 : decode cX2_has 63 = .ok (.lneg, 1) := by decide +kernel
theorem dX2_has_64 : decode cX2_has 64 = .ok (.lcmp, 1) := by decide +kernel
theorem dX2_has_65 : decode cX2_has 65 = .ok (.ifCond .ge 5, 3) := by decide +kernel
theorem dX2_has_68 : decode cX2_has 68 = .ok (.iconst 0, 1) := by decide +kernel
theorem dX2_has_69 : decode cX2_has 69 = .ok (.ireturn, 1) := by decide +kernel
theorem dX2_has_70 : decode cX2_has 70 = .ok (.lload 4, 2) := by decide +kernel
theorem dX2_has_72 : decode cX2_has 72 = .ok (.ldc2_w 36, 3) := by decide +kernel
theorem dX2_has_75 : decode cX2_has 75 = .ok (.iload 6, 2) := by decide +kernel
theorem dX2_has_77 : decode cX2_has 77 = .ok (.lshr, 1) := by decide +kernel
theorem dX2_has_78 : decode cX2_has 78 = .ok (.lmul, 1) := by decide +kernel
theorem dX2_has_79 : decode cX2_has 79 = .ok (.lstore 7, 2) := by decide +kernel
theorem dX2_has_81 : decode cX2_has 81 = .ok (.aload_n 0, 1) := by decide +kernel
theorem dX2_has_82 : decode cX2_has 82 = .ok (.iconst 0, 1) := by decide +kernel
theorem dX2_has_83 : decode cX2_has 83 = .ok (.putfield 44, 3) := by decide +kernel
theorem dX2_has_86 : decode cX2_has 86 = .ok (.aload_n 0, 1) := by decide +kernel
theorem dX2_has_87 : decode cX2_has 87 = .ok (.iconst 0, 1) := by decide +kernel
theorem dX2_has_88 : decode cX2_has 88 = .ok (.putfield 47, 3) := by decide +kernel
theorem dX2_has_91 : decode cX2_has 91 = .ok (.lconst 0, 1) := by decide +kernel
theorem dX2_has_92 : decode cX2_has 92 = .ok (.lstore 9, 2) := by decide +kernel
theorem dX2_has_94 : decode cX2_has 94 = .ok (.lload 9, 2) := by decide +kernel
theorem dX2_has_96 : decode cX2_has 96 = .ok (.lload 7, 2) := by decide +kernel
theorem dX2_has_98 : decode cX2_has 98 = .ok (.lcmp, 1) := by decide +kernel
theorem dX2_has_99 : decode cX2_has 99 = .ok (.ifCond .eq 63, 3) := by decide +kernel
theorem dX2_has_102 : decode cX2_has 102 = .ok (.aload_n 0, 1) := by decide +kernel
theorem dX2_has_103 : decode cX2_has 103 = .ok (.getfield 44, 3) := by decide +kernel
theorem dX2_has_106 : decode cX2_has 106 = .ok (.bipush 24, 2) := by decide +kernel
theorem dX2_has_108 : decode cX2_has 108 = .ok (.if_icmp .ne 5, 3) := by decide +kernel
theorem dX2_has_111 : decode cX2_has 111 = .ok (.iconst 0, 1) := by decide +kernel
theorem dX2_has_112 : decode cX2_has 112 = .ok (.ireturn, 1) := by decide +kernel
theorem dX2_has_113 : decode cX2_has 113 = .ok (.lload 9, 2) := by decide +kernel
theorem dX2_has_115 : decode cX2_has 115 = .ok (.lload 7, 2) := by decide +kernel
theorem dX2_has_117 : decode cX2_has 117 = .ok (.lcmp, 1) := by decide +kernel
theorem dX2_has_118 : decode cX2_has 118 = .ok (.ifCond .ge 18, 3) := by decide +kernel
theorem dX2_has_121 : decode cX2_has 121 = .ok (.aload_n 0, 1) := by decide +kernel
theorem dX2_has_122 : decode cX2_has 122 = .ok (.dup, 1) := by decide +kernel
theorem dX2_has_123 : decode cX2_has 123 = .ok (.getfield 47, 3) := by decide +kernel
theorem dX2_has_126 : decode cX2_has 126 = .ok (.iconst 1, 1) := by decide +kernel
theorem dX2_has_127 : decode cX2_has 127 = .ok (.aload_n 0, 1) := by decide +kernel
theorem dX2_has_128 : decode cX2_has 128 = .ok (.getfield 44, 3) := by decide +kernel
theorem dX2_has_131 : decode cX2_has 131 = .ok (.ishl, 1) := by decide +kernel
theorem dX2_has_132 : decode cX2_has 132 = .ok (.ior, 1) := by decide +kernel
theorem dX2_has_133 : decode cX2_has 133 = .ok (.putfield 47, 3) := by decide +kernel
theorem dX2_has_136 : decode cX2_has 136 = .ok (.aload_n 0, 1) := by decide +kernel
theorem dX2_has_137 : decode cX2_has 137 = .ok (.dup, 1) := by decide +kernel
theorem dX2_has_138 : decode cX2_has 138 = .ok (.getfield 44, 3) := by decide +kernel
theorem dX2_has_141 : decode cX2_has 141 = .ok (.iconst 1, 1) := by decide +kernel
theorem dX2_has_142 : decode cX2_has 142 = .ok (.iadd, 1) := by decide +kernel
theorem dX2_has_143 : decode cX2_has 143 = .ok (.putfield 44, 3) := by decide +kernel
theorem dX2_has_146 : decode cX2_has 146 = .ok (.aload_n 0, 1) := by decide +kernel
theorem dX2_has_147 : decode cX2_has 147 = .ok (.getfield 47, 3) := by decide +kernel
theorem dX2_has_150 : decode cX2_has 150 = .ok (.aload_n 0, 1) := by decide +kernel
theorem dX2_has_151 : decode cX2_has 151 = .ok (.getfield 44, 3) := by decide +kernel
theorem dX2_has_154 : decode cX2_has 154 = .ok (.invokestatic 40, 3) := by decide +kernel
theorem dX2_has_157 : decode cX2_has 157 = .ok (.lstore 9, 2) := by decide +kernel
theorem dX2_has_159 : decode cX2_has 159 = .ok (.goto (-65), 3) := by decide +kernel
theorem dX2_has_162 : decode cX2_has 162 = .ok (.iconst 1, 1) := by decide +kernel
theorem dX2_has_163 : decode cX2_has 163 = .ok (.ireturn, 1) := by decide +kernel
theorem dX2_keeps_0 : decode cX2_keeps 0 = .ok (.iload_n 2, 1) := by decide +kernel
theorem dX2_keeps_1 : decode cX2_keeps 1 = .ok (.ifCond .ne 6, 3) := by decide +kernel
theorem dX2_keeps_4 : decode cX2_keeps 4 = .ok (.bipush (-3), 2) := by decide +kernel
theorem dX2_keeps_6 : decode cX2_keeps 6 = .ok (.ireturn, 1) := by decide +kernel
theorem dX2_keeps_7 : decode cX2_keeps 7 = .ok (.aload_n 0, 1) := by decide +kernel
theorem dX2_keeps_8 : decode cX2_keeps 8 = .ok (.getfield 7, 3) := by decide +kernel
theorem dX2_keeps_11 : decode cX2_keeps 11 = .ok (.iload_n 1, 1) := by decide +kernel
theorem dX2_keeps_12 : decode cX2_keeps 12 = .ok (.aload_n 0, 1) := by decide +kernel
theorem dX2_keeps_13 : decode cX2_keeps 13 = .ok (.getfield 44, 3) := by decide +kernel
theorem dX2_keeps_16 : decode cX2_keeps 16 = .ok (.iastore, 1) := by decide +kernel
theorem dX2_keeps_17 : decode cX2_keeps 17 = .ok (.aload_n 0, 1) := by decide +kernel
theorem dX2_keeps_18 : decode cX2_keeps 18 = .ok (.getfield 13, 3) := by decide +kernel
theorem dX2_keeps_21 : decode cX2_keeps 21 = .ok (.iload_n 1, 1) := by decide +kernel
theorem dX2_keeps_22 : decode cX2_keeps 22 = .ok (.aload_n 0, 1) := by decide +kernel
theorem dX2_keeps_23 : decode cX2_keeps 23 = .ok (.getfield 47, 3) := by decide +kernel
theorem dX2_keeps_26 : decode cX2_keeps 26 = .ok (.iastore, 1) := by decide +kernel
theorem dX2_keeps_27 : decode cX2_keeps 27 = .ok (.aload_n 0, 1) := by decide +kernel
theorem dX2_keeps_28 : decode cX2_keeps 28 = .ok (.getfield 44, 3) := by decide +kernel
theorem dX2_keeps_31 : decode cX2_keeps 31 = .ok (.ireturn, 1) := by decide +kernel
theorem dX2_row_0 : decode cX2_row 0 = .ok (.iload_n 1, 1) := by decide +kernel
theorem dX2_row_1 : decode cX2_row 1 = .ok (.invokestatic 52, 3) := by decide +kernel
theorem dX2_row_4 : decode cX2_row 4 = .ok (.ifCond .eq 21, 3) := by decide +kernel
theorem dX2_row_7 : decode cX2_row 7 = .ok (.iload_n 2, 1) := by decide +kernel
theorem dX2_row_8 : decode cX2_row 8 = .ok (.i2l, 1) := by decide +kernel
theorem dX2_row_9 : decode cX2_row 9 = .ok (.lconst 0, 1) := by decide +kernel
theorem dX2_row_10 : decode cX2_row 10 = .ok (.ldc2_w 56, 3) := by decide +kernel
theorem dX2_row_13 : decode cX2_row 13 = .ok (.invokestatic 32, 3) := by decide +kernel
theorem dX2_row_16 : decode cX2_row 16 = .ok (.ifCond .eq 9, 3) := by decide +kernel
theorem dX2_row_19 : decode cX2_row 19 = .ok (.iload_n 3, 1) := by decide +kernel
theorem dX2_row_20 : decode cX2_row 20 = .ok (.iload_n 2, 1) := by decide +kernel
theorem dX2_row_21 : decode cX2_row 21 = .ok (.iushr, 1) := by decide +kernel
theorem dX2_row_22 : decode cX2_row 22 = .ok (.ifCond .eq 5, 3) := by decide +kernel
theorem dX2_row_25 : decode cX2_row 25 = .ok (.iconst (-1), 1) := by decide +kernel
theorem dX2_row_26 : decode cX2_row 26 = .ok (.ireturn, 1) := by decide +kernel
theorem dX2_row_27 : decode cX2_row 27 = .ok (.aload_n 0, 1) := by decide +kernel
theorem dX2_row_28 : decode cX2_row 28 = .ok (.getfield 7, 3) := by decide +kernel
theorem dX2_row_31 : decode cX2_row 31 = .ok (.iload_n 1, 1) := by decide +kernel
theorem dX2_row_32 : decode cX2_row 32 = .ok (.iload_n 2, 1) := by decide +kernel
theorem dX2_row_33 : decode cX2_row 33 = .ok (.iastore, 1) := by decide +kernel
theorem dX2_row_34 : decode cX2_row 34 = .ok (.aload_n 0, 1) := by decide +kernel
theorem dX2_row_35 : decode cX2_row 35 = .ok (.getfield 13, 3) := by decide +kernel
theorem dX2_row_38 : decode cX2_row 38 = .ok (.iload_n 1, 1) := by decide +kernel
theorem dX2_row_39 : decode cX2_row 39 = .ok (.iload_n 3, 1) := by decide +kernel
theorem dX2_row_40 : decode cX2_row 40 = .ok (.iastore, 1) := by decide +kernel
theorem dX2_row_41 : decode cX2_row 41 = .ok (.iload_n 2, 1) := by decide +kernel
theorem dX2_row_42 : decode cX2_row 42 = .ok (.ireturn, 1) := by decide +kernel
theorem dX2_number_0 : decode cX2_number 0 = .ok (.iload_n 1, 1) := by decide +kernel
theorem dX2_number_1 : decode cX2_number 1 = .ok (.invokestatic 52, 3) := by decide +kernel
theorem dX2_number_4 : decode cX2_number 4 = .ok (.ifCond .eq 29, 3) := by decide +kernel
theorem dX2_number_7 : decode cX2_number 7 = .ok (.iload_n 2, 1) := by decide +kernel
theorem dX2_number_8 : decode cX2_number 8 = .ok (.i2l, 1) := by decide +kernel
theorem dX2_number_9 : decode cX2_number 9 = .ok (.ldc2_w 58, 3) := by decide +kernel
theorem dX2_number_12 : decode cX2_number 12 = .ok (.ldc2_w 60, 3) := by decide +kernel
theorem dX2_number_15 : decode cX2_number 15 = .ok (.invokestatic 32, 3) := by decide +kernel
theorem dX2_number_18 : decode cX2_number 18 = .ok (.ifCond .eq 15, 3) := by decide +kernel
theorem dX2_number_21 : decode cX2_number 21 = .ok (.iload_n 3, 1) := by decide +kernel
theorem dX2_number_22 : decode cX2_number 22 = .ok (.i2l, 1) := by decide +kernel
theorem dX2_number_23 : decode cX2_number 23 = .ok (.lconst 0, 1) := by decide +kernel
theorem dX2_number_24 : decode cX2_number 24 = .ok (.ldc2_w 62, 3) := by decide +kernel
theorem dX2_number_27 : decode cX2_number 27 = .ok (.invokestatic 32, 3) := by decide +kernel
theorem dX2_number_30 : decode cX2_number 30 = .ok (.ifCond .ne 5, 3) := by decide +kernel
theorem dX2_number_33 : decode cX2_number 33 = .ok (.iconst (-1), 1) := by decide +kernel
theorem dX2_number_34 : decode cX2_number 34 = .ok (.ireturn, 1) := by decide +kernel
theorem dX2_number_35 : decode cX2_number 35 = .ok (.aload_n 0, 1) := by decide +kernel
theorem dX2_number_36 : decode cX2_number 36 = .ok (.iload_n 1, 1) := by decide +kernel
theorem dX2_number_37 : decode cX2_number 37 = .ok (.aload_n 0, 1) := by decide +kernel
theorem dX2_number_38 : decode cX2_number 38 = .ok (.iload_n 2, 1) := by decide +kernel
theorem dX2_number_39 : decode cX2_number 39 = .ok (.i2l, 1) := by decide +kernel
theorem dX2_number_40 : decode cX2_number 40 = .ok (.iload_n 3, 1) := by decide +kernel
theorem dX2_number_41 : decode cX2_number 41 = .ok (.invokevirtual 64, 3) := by decide +kernel
theorem dX2_number_44 : decode cX2_number 44 = .ok (.invokevirtual 68, 3) := by decide +kernel
theorem dX2_number_47 : decode cX2_number 47 = .ok (.ireturn, 1) := by decide +kernel
theorem dX2_at_0 : decode cX2_at 0 = .ok (.iload_n 1, 1) := by decide +kernel
theorem dX2_at_1 : decode cX2_at 1 = .ok (.invokestatic 52, 3) := by decide +kernel
theorem dX2_at_4 : decode cX2_at 4 = .ok (.ifCond .eq 8, 3) := by decide +kernel
theorem dX2_at_7 : decode cX2_at 7 = .ok (.iload_n 2, 1) := by decide +kernel
theorem dX2_at_8 : decode cX2_at 8 = .ok (.iconst (-1), 1) := by decide +kernel
theorem dX2_at_9 : decode cX2_at 9 = .ok (.if_icmp .ge 5, 3) := by decide +kernel
theorem dX2_at_12 : decode cX2_at 12 = .ok (.iconst (-1), 1) := by decide +kernel
theorem dX2_at_13 : decode cX2_at 13 = .ok (.ireturn, 1) := by decide +kernel
theorem dX2_at_14 : decode cX2_at 14 = .ok (.iload_n 2, 1) := by decide +kernel
theorem dX2_at_15 : decode cX2_at 15 = .ok (.ifCond .ge 12, 3) := by decide +kernel
theorem dX2_at_18 : decode cX2_at 18 = .ok (.aload_n 0, 1) := by decide +kernel
theorem dX2_at_19 : decode cX2_at 19 = .ok (.getfield 7, 3) := by decide +kernel
theorem dX2_at_22 : decode cX2_at 22 = .ok (.iload_n 1, 1) := by decide +kernel
theorem dX2_at_23 : decode cX2_at 23 = .ok (.iaload, 1) := by decide +kernel
theorem dX2_at_24 : decode cX2_at 24 = .ok (.goto 28, 3) := by decide +kernel
theorem dX2_at_27 : decode cX2_at 27 = .ok (.iload_n 2, 1) := by decide +kernel
theorem dX2_at_28 : decode cX2_at 28 = .ok (.aload_n 0, 1) := by decide +kernel
theorem dX2_at_29 : decode cX2_at 29 = .ok (.getfield 7, 3) := by decide +kernel
theorem dX2_at_32 : decode cX2_at 32 = .ok (.iload_n 1, 1) := by decide +kernel
theorem dX2_at_33 : decode cX2_at 33 = .ok (.iaload, 1) := by decide +kernel
theorem dX2_at_34 : decode cX2_at 34 = .ok (.if_icmp .ge 16, 3) := by decide +kernel
theorem dX2_at_37 : decode cX2_at 37 = .ok (.aload_n 0, 1) := by decide +kernel
theorem dX2_at_38 : decode cX2_at 38 = .ok (.getfield 13, 3) := by decide +kernel
theorem dX2_at_41 : decode cX2_at 41 = .ok (.iload_n 1, 1) := by decide +kernel
theorem dX2_at_42 : decode cX2_at 42 = .ok (.iaload, 1) := by decide +kernel
theorem dX2_at_43 : decode cX2_at 43 = .ok (.iload_n 2, 1) := by decide +kernel
theorem dX2_at_44 : decode cX2_at 44 = .ok (.ishr, 1) := by decide +kernel
theorem dX2_at_45 : decode cX2_at 45 = .ok (.iconst 1, 1) := by decide +kernel
theorem dX2_at_46 : decode cX2_at 46 = .ok (.iand, 1) := by decide +kernel
theorem dX2_at_47 : decode cX2_at 47 = .ok (.goto 5, 3) := by decide +kernel
theorem dX2_at_50 : decode cX2_at 50 = .ok (.bipush (-4), 2) := by decide +kernel
theorem dX2_at_52 : decode cX2_at 52 = .ok (.ireturn, 1) := by decide +kernel
theorem dX2_value_0 : decode cX2_value 0 = .ok (.iload_n 1, 1) := by decide +kernel
theorem dX2_value_1 : decode cX2_value 1 = .ok (.invokestatic 52, 3) := by decide +kernel
theorem dX2_value_4 : decode cX2_value 4 = .ok (.ifCond .eq 13, 3) := by decide +kernel
theorem dX2_value_7 : decode cX2_value 7 = .ok (.iload_n 2, 1) := by decide +kernel
theorem dX2_value_8 : decode cX2_value 8 = .ok (.i2l, 1) := by decide +kernel
theorem dX2_value_9 : decode cX2_value 9 = .ok (.lconst 0, 1) := by decide +kernel
theorem dX2_value_10 : decode cX2_value 10 = .ok (.lconst 1, 1) := by decide +kernel
theorem dX2_value_11 : decode cX2_value 11 = .ok (.invokestatic 32, 3) := by decide +kernel
theorem dX2_value_14 : decode cX2_value 14 = .ok (.ifCond .ne 6, 3) := by decide +kernel
theorem dX2_value_17 : decode cX2_value 17 = .ok (.ldc 72, 2) := by decide +kernel
theorem dX2_value_19 : decode cX2_value 19 = .ok (.ireturn, 1) := by decide +kernel
theorem dX2_value_20 : decode cX2_value 20 = .ok (.aload_n 0, 1) := by decide +kernel
theorem dX2_value_21 : decode cX2_value 21 = .ok (.iload_n 1, 1) := by decide +kernel
theorem dX2_value_22 : decode cX2_value 22 = .ok (.invokevirtual 73, 3) := by decide +kernel
theorem dX2_value_25 : decode cX2_value 25 = .ok (.lstore_n 3, 1) := by decide +kernel
theorem dX2_value_26 : decode cX2_value 26 = .ok (.bipush 24, 2) := by decide +kernel
theorem dX2_value_28 : decode cX2_value 28 = .ok (.istore 5, 2) := by decide +kernel
theorem dX2_value_30 : decode cX2_value 30 = .ok (.iload 5, 2) := by decide +kernel
theorem dX2_value_32 : decode cX2_value 32 = .ok (.ifCond .le 25, 3) := by decide +kernel
theorem dX2_value_35 : decode cX2_value 35 = .ok (.lload_n 3, 1) := by decide +kernel
theorem dX2_value_36 : decode cX2_value 36 = .ok (.ldc2_w 38, 3) := by decide +kernel
theorem dX2_value_39 : decode cX2_value 39 = .ok (.lrem, 1) := by decide +kernel
theorem dX2_value_40 : decode cX2_value 40 = .ok (.lconst 0, 1) := by decide +kernel
theorem dX2_value_41 : decode cX2_value 41 = .ok (.lcmp, 1) := by decide +kernel
theorem dX2_value_42 : decode cX2_value 42 = .ok (.ifCond .ne 15, 3) := by decide +kernel
theorem dX2_value_45 : decode cX2_value 45 = .ok (.lload_n 3, 1) := by decide +kernel
theorem dX2_value_46 : decode cX2_value 46 = .ok (.ldc2_w 38, 3) := by decide +kernel
theorem dX2_value_49 : decode cX2_value 49 = .ok (.ldiv, 1) := by decide +kernel
theorem dX2_value_50 : decode cX2_value 50 = .ok (.lstore_n 3, 1) := by decide +kernel
theorem dX2_value_51 : decode cX2_value 51 = .ok (.iinc 5 (-1), 3) := by decide +kernel
theorem dX2_value_54 : decode cX2_value 54 = .ok (.goto (-24), 3) := by decide +kernel
theorem dX2_value_57 : decode cX2_value 57 = .ok (.iload_n 2, 1) := by decide +kernel
theorem dX2_value_58 : decode cX2_value 58 = .ok (.ifCond .ne 8, 3) := by decide +kernel
theorem dX2_value_61 : decode cX2_value 61 = .ok (.lload_n 3, 1) := by decide +kernel
theorem dX2_value_62 : decode cX2_value 62 = .ok (.l2i, 1) := by decide +kernel
theorem dX2_value_63 : decode cX2_value 63 = .ok (.goto 5, 3) := by decide +kernel
theorem dX2_value_66 : decode cX2_value 66 = .ok (.iload 5, 2) := by decide +kernel
theorem dX2_value_68 : decode cX2_value 68 = .ok (.ireturn, 1) := by decide +kernel
theorem dX2_compare_0 : decode cX2_compare 0 = .ok (.lload_n 0, 1) := by decide +kernel
theorem dX2_compare_1 : decode cX2_compare 1 = .ok (.lload_n 2, 1) := by decide +kernel
theorem dX2_compare_2 : decode cX2_compare 2 = .ok (.lcmp, 1) := by decide +kernel
theorem dX2_compare_3 : decode cX2_compare 3 = .ok (.ifCond .ge 7, 3) := by decide +kernel
theorem dX2_compare_6 : decode cX2_compare 6 = .ok (.iconst (-1), 1) := by decide +kernel
theorem dX2_compare_7 : decode cX2_compare 7 = .ok (.goto 14, 3) := by decide +kernel
theorem dX2_compare_10 : decode cX2_compare 10 = .ok (.lload_n 0, 1) := by decide +kernel
theorem dX2_compare_11 : decode cX2_compare 11 = .ok (.lload_n 2, 1) := by decide +kernel
theorem dX2_compare_12 : decode cX2_compare 12 = .ok (.lcmp, 1) := by decide +kernel
theorem dX2_compare_13 : decode cX2_compare 13 = .ok (.ifCond .le 7, 3) := by decide +kernel
theorem dX2_compare_16 : decode cX2_compare 16 = .ok (.iconst 1, 1) := by decide +kernel
theorem dX2_compare_17 : decode cX2_compare 17 = .ok (.goto 4, 3) := by decide +kernel
theorem dX2_compare_20 : decode cX2_compare 20 = .ok (.iconst 0, 1) := by decide +kernel
theorem dX2_compare_21 : decode cX2_compare 21 = .ok (.ireturn, 1) := by decide +kernel
theorem dX2_against_0 : decode cX2_against 0 = .ok (.iload_n 1, 1) := by decide +kernel
theorem dX2_against_1 : decode cX2_against 1 = .ok (.invokestatic 52, 3) := by decide +kernel
theorem dX2_against_4 : decode cX2_against 4 = .ok (.ifCond .eq 26, 3) := by decide +kernel
theorem dX2_against_7 : decode cX2_against 7 = .ok (.iload_n 2, 1) := by decide +kernel
theorem dX2_against_8 : decode cX2_against 8 = .ok (.invokestatic 52, 3) := by decide +kernel
theorem dX2_against_11 : decode cX2_against 11 = .ok (.ifCond .eq 19, 3) := by decide +kernel
theorem dX2_against_14 : decode cX2_against 14 = .ok (.aload_n 0, 1) := by decide +kernel
theorem dX2_against_15 : decode cX2_against 15 = .ok (.iload_n 1, 1) := by decide +kernel
theorem dX2_against_16 : decode cX2_against 16 = .ok (.invokevirtual 73, 3) := by decide +kernel
theorem dX2_against_19 : decode cX2_against 19 = .ok (.aload_n 0, 1) := by decide +kernel
theorem dX2_against_20 : decode cX2_against 20 = .ok (.iload_n 2, 1) := by decide +kernel
theorem dX2_against_21 : decode cX2_against 21 = .ok (.invokevirtual 73, 3) := by decide +kernel
theorem dX2_against_24 : decode cX2_against 24 = .ok (.invokestatic 77, 3) := by decide +kernel
theorem dX2_against_27 : decode cX2_against 27 = .ok (.goto 5, 3) := by decide +kernel
theorem dX2_against_30 : decode cX2_against 30 = .ok (.bipush (-9), 2) := by decide +kernel
theorem dX2_against_32 : decode cX2_against 32 = .ok (.ireturn, 1) := by decide +kernel
theorem dX2_work_0 : decode cX2_work 0 = .ok (.iload_n 1, 1) := by decide +kernel
theorem dX2_work_1 : decode cX2_work 1 = .ok (.invokestatic 52, 3) := by decide +kernel
theorem dX2_work_4 : decode cX2_work 4 = .ok (.ifCond .eq 35, 3) := by decide +kernel
theorem dX2_work_7 : decode cX2_work 7 = .ok (.iload_n 2, 1) := by decide +kernel
theorem dX2_work_8 : decode cX2_work 8 = .ok (.i2l, 1) := by decide +kernel
theorem dX2_work_9 : decode cX2_work 9 = .ok (.lconst 0, 1) := by decide +kernel
theorem dX2_work_10 : decode cX2_work 10 = .ok (.ldc2_w 81, 3) := by decide +kernel
theorem dX2_work_13 : decode cX2_work 13 = .ok (.invokestatic 32, 3) := by decide +kernel
theorem dX2_work_16 : decode cX2_work 16 = .ok (.ifCond .eq 23, 3) := by decide +kernel
theorem dX2_work_19 : decode cX2_work 19 = .ok (.iload_n 3, 1) := by decide +kernel
theorem dX2_work_20 : decode cX2_work 20 = .ok (.invokestatic 52, 3) := by decide +kernel
theorem dX2_work_23 : decode cX2_work 23 = .ok (.ifCond .eq 16, 3) := by decide +kernel
theorem dX2_work_26 : decode cX2_work 26 = .ok (.iload_n 2, 1) := by decide +kernel
theorem dX2_work_27 : decode cX2_work 27 = .ok (.iconst 3, 1) := by decide +kernel
theorem dX2_work_28 : decode cX2_work 28 = .ok (.if_icmp .ge 13, 3) := by decide +kernel
theorem dX2_work_31 : decode cX2_work 31 = .ok (.iload 4, 2) := by decide +kernel
theorem dX2_work_33 : decode cX2_work 33 = .ok (.invokestatic 52, 3) := by decide +kernel
theorem dX2_work_36 : decode cX2_work 36 = .ok (.ifCond .ne 5, 3) := by decide +kernel
theorem dX2_work_39 : decode cX2_work 39 = .ok (.iconst (-1), 1) := by decide +kernel
theorem dX2_work_40 : decode cX2_work 40 = .ok (.ireturn, 1) := by decide +kernel
theorem dX2_work_41 : decode cX2_work 41 = .ok (.aload_n 0, 1) := by decide +kernel
theorem dX2_work_42 : decode cX2_work 42 = .ok (.iload_n 3, 1) := by decide +kernel
theorem dX2_work_43 : decode cX2_work 43 = .ok (.invokevirtual 73, 3) := by decide +kernel
theorem dX2_work_46 : decode cX2_work 46 = .ok (.lstore 5, 2) := by decide +kernel
theorem dX2_work_48 : decode cX2_work 48 = .ok (.iload_n 2, 1) := by decide +kernel
theorem dX2_work_49 : decode cX2_work 49 = .ok (.iconst 3, 1) := by decide +kernel
theorem dX2_work_50 : decode cX2_work 50 = .ok (.if_icmp .ge 12, 3) := by decide +kernel
theorem dX2_work_53 : decode cX2_work 53 = .ok (.aload_n 0, 1) := by decide +kernel
theorem dX2_work_54 : decode cX2_work 54 = .ok (.iload 4, 2) := by decide +kernel
theorem dX2_work_56 : decode cX2_work 56 = .ok (.invokevirtual 73, 3) := by decide +kernel
theorem dX2_work_59 : decode cX2_work 59 = .ok (.goto 4, 3) := by decide +kernel
theorem dX2_work_62 : decode cX2_work 62 = .ok (.lconst 0, 1) := by decide +kernel
theorem dX2_work_63 : decode cX2_work 63 = .ok (.lstore 7, 2) := by decide +kernel
theorem dX2_work_65 : decode cX2_work 65 = .ok (.iload_n 2, 1) := by decide +kernel
theorem dX2_work_66 : decode cX2_work 66 = .ok (.tableswitch 77 0 2 #[26, 43, 60], 26) := by decide +kernel
theorem dX2_work_92 : decode cX2_work 92 = .ok (.aload_n 0, 1) := by decide +kernel
theorem dX2_work_93 : decode cX2_work 93 = .ok (.iload_n 1, 1) := by decide +kernel
theorem dX2_work_94 : decode cX2_work 94 = .ok (.aload_n 0, 1) := by decide +kernel
theorem dX2_work_95 : decode cX2_work 95 = .ok (.lload 5, 2) := by decide +kernel
theorem dX2_work_97 : decode cX2_work 97 = .ok (.lload 7, 2) := by decide +kernel
theorem dX2_work_99 : decode cX2_work 99 = .ok (.ladd, 1) := by decide +kernel
theorem dX2_work_100 : decode cX2_work 100 = .ok (.bipush 24, 2) := by decide +kernel
theorem dX2_work_102 : decode cX2_work 102 = .ok (.invokevirtual 64, 3) := by decide +kernel
theorem dX2_work_105 : decode cX2_work 105 = .ok (.invokevirtual 68, 3) := by decide +kernel
theorem dX2_work_108 : decode cX2_work 108 = .ok (.ireturn, 1) := by decide +kernel
theorem dX2_work_109 : decode cX2_work 109 = .ok (.aload_n 0, 1) := by decide +kernel
theorem dX2_work_110 : decode cX2_work 110 = .ok (.iload_n 1, 1) := by decide +kernel
theorem dX2_work_111 : decode cX2_work 111 = .ok (.aload_n 0, 1) := by decide +kernel
theorem dX2_work_112 : decode cX2_work 112 = .ok (.lload 5, 2) := by decide +kernel
theorem dX2_work_114 : decode cX2_work 114 = .ok (.lload 7, 2) := by decide +kernel
theorem dX2_work_116 : decode cX2_work 116 = .ok (.lsub, 1) := by decide +kernel
theorem dX2_work_117 : decode cX2_work 117 = .ok (.bipush 24, 2) := by decide +kernel
theorem dX2_work_119 : decode cX2_work 119 = .ok (.invokevirtual 64, 3) := by decide +kernel
theorem dX2_work_122 : decode cX2_work 122 = .ok (.invokevirtual 68, 3) := by decide +kernel
theorem dX2_work_125 : decode cX2_work 125 = .ok (.ireturn, 1) := by decide +kernel
theorem dX2_work_126 : decode cX2_work 126 = .ok (.aload_n 0, 1) := by decide +kernel
theorem dX2_work_127 : decode cX2_work 127 = .ok (.iload_n 1, 1) := by decide +kernel
theorem dX2_work_128 : decode cX2_work 128 = .ok (.aload_n 0, 1) := by decide +kernel
theorem dX2_work_129 : decode cX2_work 129 = .ok (.lload 5, 2) := by decide +kernel
theorem dX2_work_131 : decode cX2_work 131 = .ok (.lload 7, 2) := by decide +kernel
theorem dX2_work_133 : decode cX2_work 133 = .ok (.lmul, 1) := by decide +kernel
theorem dX2_work_134 : decode cX2_work 134 = .ok (.bipush 48, 2) := by decide +kernel
theorem dX2_work_136 : decode cX2_work 136 = .ok (.invokevirtual 64, 3) := by decide +kernel
theorem dX2_work_139 : decode cX2_work 139 = .ok (.invokevirtual 68, 3) := by decide +kernel
theorem dX2_work_142 : decode cX2_work 142 = .ok (.ireturn, 1) := by decide +kernel
theorem dX2_work_143 : decode cX2_work 143 = .ok (.aload_n 0, 1) := by decide +kernel
theorem dX2_work_144 : decode cX2_work 144 = .ok (.iload_n 1, 1) := by decide +kernel
theorem dX2_work_145 : decode cX2_work 145 = .ok (.aload_n 0, 1) := by decide +kernel
theorem dX2_work_146 : decode cX2_work 146 = .ok (.lload 5, 2) := by decide +kernel
theorem dX2_work_148 : decode cX2_work 148 = .ok (.lneg, 1) := by decide +kernel
theorem dX2_work_149 : decode cX2_work 149 = .ok (.bipush 24, 2) := by decide +kernel
theorem dX2_work_151 : decode cX2_work 151 = .ok (.invokevirtual 64, 3) := by decide +kernel
theorem dX2_work_154 : decode cX2_work 154 = .ok (.invokevirtual 68, 3) := by decide +kernel
theorem dX2_work_157 : decode cX2_work 157 = .ok (.ireturn, 1) := by decide +kernel
theorem dX2_side_0 : decode cX2_side 0 = .ok (.iload_n 1, 1) := by decide +kernel
theorem dX2_side_1 : decode cX2_side 1 = .ok (.invokestatic 52, 3) := by decide +kernel
theorem dX2_side_4 : decode cX2_side 4 = .ok (.ifCond .eq 20, 3) := by decide +kernel
theorem dX2_side_7 : decode cX2_side 7 = .ok (.iload_n 2, 1) := by decide +kernel
theorem dX2_side_8 : decode cX2_side 8 = .ok (.invokestatic 52, 3) := by decide +kernel
theorem dX2_side_11 : decode cX2_side 11 = .ok (.ifCond .eq 13, 3) := by decide +kernel
theorem dX2_side_14 : decode cX2_side 14 = .ok (.iload_n 3, 1) := by decide +kernel
theorem dX2_side_15 : decode cX2_side 15 = .ok (.i2l, 1) := by decide +kernel
theorem dX2_side_16 : decode cX2_side 16 = .ok (.lconst 0, 1) := by decide +kernel
theorem dX2_side_17 : decode cX2_side 17 = .ok (.lconst 1, 1) := by decide +kernel
theorem dX2_side_18 : decode cX2_side 18 = .ok (.invokestatic 32, 3) := by decide +kernel
theorem dX2_side_21 : decode cX2_side 21 = .ok (.ifCond .ne 5, 3) := by decide +kernel
theorem dX2_side_24 : decode cX2_side 24 = .ok (.iconst (-1), 1) := by decide +kernel
theorem dX2_side_25 : decode cX2_side 25 = .ok (.ireturn, 1) := by decide +kernel
theorem dX2_side_26 : decode cX2_side 26 = .ok (.aload_n 0, 1) := by decide +kernel
theorem dX2_side_27 : decode cX2_side 27 = .ok (.getfield 7, 3) := by decide +kernel
theorem dX2_side_30 : decode cX2_side 30 = .ok (.iload_n 2, 1) := by decide +kernel
theorem dX2_side_31 : decode cX2_side 31 = .ok (.iaload, 1) := by decide +kernel
theorem dX2_side_32 : decode cX2_side 32 = .ok (.iconst 1, 1) := by decide +kernel
theorem dX2_side_33 : decode cX2_side 33 = .ok (.isub, 1) := by decide +kernel
theorem dX2_side_34 : decode cX2_side 34 = .ok (.istore 4, 2) := by decide +kernel
theorem dX2_side_36 : decode cX2_side 36 = .ok (.iload 4, 2) := by decide +kernel
theorem dX2_side_38 : decode cX2_side 38 = .ok (.ifCond .lt 26, 3) := by decide +kernel
theorem dX2_side_41 : decode cX2_side 41 = .ok (.aload_n 0, 1) := by decide +kernel
theorem dX2_side_42 : decode cX2_side 42 = .ok (.getfield 13, 3) := by decide +kernel
theorem dX2_side_45 : decode cX2_side 45 = .ok (.iload_n 2, 1) := by decide +kernel
theorem dX2_side_46 : decode cX2_side 46 = .ok (.iaload, 1) := by decide +kernel
theorem dX2_side_47 : decode cX2_side 47 = .ok (.iload 4, 2) := by decide +kernel
theorem dX2_side_49 : decode cX2_side 49 = .ok (.ishr, 1) := by decide +kernel
theorem dX2_side_50 : decode cX2_side 50 = .ok (.iconst 1, 1) := by decide +kernel
theorem dX2_side_51 : decode cX2_side 51 = .ok (.iand, 1) := by decide +kernel
theorem dX2_side_52 : decode cX2_side 52 = .ok (.iconst 1, 1) := by decide +kernel
theorem dX2_side_53 : decode cX2_side 53 = .ok (.iload_n 3, 1) := by decide +kernel
theorem dX2_side_54 : decode cX2_side 54 = .ok (.isub, 1) := by decide +kernel
theorem dX2_side_55 : decode cX2_side 55 = .ok (.if_icmp .eq 9, 3) := by decide +kernel
theorem dX2_side_58 : decode cX2_side 58 = .ok (.iinc 4 (-1), 3) := by decide +kernel
theorem dX2_side_61 : decode cX2_side 61 = .ok (.goto (-25), 3) := by decide +kernel
theorem dX2_side_64 : decode cX2_side 64 = .ok (.iload 4, 2) := by decide +kernel
theorem dX2_side_66 : decode cX2_side 66 = .ok (.ifCond .ge 6, 3) := by decide +kernel
theorem dX2_side_69 : decode cX2_side 69 = .ok (.bipush (-2), 2) := by decide +kernel
theorem dX2_side_71 : decode cX2_side 71 = .ok (.ireturn, 1) := by decide +kernel
theorem dX2_side_72 : decode cX2_side 72 = .ok (.aload_n 0, 1) := by decide +kernel
theorem dX2_side_73 : decode cX2_side 73 = .ok (.aload_n 0, 1) := by decide +kernel
theorem dX2_side_74 : decode cX2_side 74 = .ok (.getfield 13, 3) := by decide +kernel
theorem dX2_side_77 : decode cX2_side 77 = .ok (.iload_n 2, 1) := by decide +kernel
theorem dX2_side_78 : decode cX2_side 78 = .ok (.iaload, 1) := by decide +kernel
