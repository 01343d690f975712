theorem dX0_init_0 : decode cX0_init 0 = .ok (.aload_n 0, 1) := by decide +kernel
theorem dX0_init_1 : decode cX0_init 1 = .ok (.invokespecial 3, 3) := by decide +kernel
theorem dX0_init_4 : decode cX0_init 4 = .ok (.aload_n 0, 1) := by decide +kernel
theorem dX0_init_5 : decode cX0_init 5 = .ok (.bipush 13, 2) := by decide +kernel
theorem dX0_init_7 : decode cX0_init 7 = .ok (.newarray .long, 2) := by decide +kernel
theorem dX0_init_9 : decode cX0_init 9 = .ok (.putfield 9, 3) := by decide +kernel
theorem dX0_init_12 : decode cX0_init 12 = .ok (.return_, 1) := by decide +kernel
theorem dX0_countTerms_0 : decode cX0_countTerms 0 = .ok (.iconst 0, 1) := by decide +kernel
theorem dX0_countTerms_1 : decode cX0_countTerms 1 = .ok (.istore_n 1, 1) := by decide +kernel
theorem dX0_countTerms_2 : decode cX0_countTerms 2 = .ok (.iconst 0, 1) := by decide +kernel
theorem dX0_countTerms_3 : decode cX0_countTerms 3 = .ok (.istore_n 2, 1) := by decide +kernel
theorem dX0_countTerms_4 : decode cX0_countTerms 4 = .ok (.iload_n 2, 1) := by decide +kernel
theorem dX0_countTerms_5 : decode cX0_countTerms 5 = .ok (.bipush 13, 2) := by decide +kernel
theorem dX0_countTerms_7 : decode cX0_countTerms 7 = .ok (.if_icmp .ge 23, 3) := by decide +kernel
theorem dX0_countTerms_10 : decode cX0_countTerms 10 = .ok (.aload_n 0, 1) := by decide +kernel
theorem dX0_countTerms_11 : decode cX0_countTerms 11 = .ok (.getfield 9, 3) := by decide +kernel
theorem dX0_countTerms_14 : decode cX0_countTerms 14 = .ok (.iload_n 2, 1) := by decide +kernel
theorem dX0_countTerms_15 : decode cX0_countTerms 15 = .ok (.laload, 1) := by decide +kernel
theorem dX0_countTerms_16 : decode cX0_countTerms 16 = .ok (.lconst 0, 1) := by decide +kernel
theorem dX0_countTerms_17 : decode cX0_countTerms 17 = .ok (.lcmp, 1) := by decide +kernel
theorem dX0_countTerms_18 : decode cX0_countTerms 18 = .ok (.ifCond .eq 6, 3) := by decide +kernel
theorem dX0_countTerms_21 : decode cX0_countTerms 21 = .ok (.iinc 1 1, 3) := by decide +kernel
theorem dX0_countTerms_24 : decode cX0_countTerms 24 = .ok (.iinc 2 1, 3) := by decide +kernel
theorem dX0_countTerms_27 : decode cX0_countTerms 27 = .ok (.goto (-23), 3) := by decide +kernel
theorem dX0_countTerms_30 : decode cX0_countTerms 30 = .ok (.iload_n 1, 1) := by decide +kernel
theorem dX0_countTerms_31 : decode cX0_countTerms 31 = .ok (.ireturn, 1) := by decide +kernel
theorem dX0_slotOfTerm_0 : decode cX0_slotOfTerm 0 = .ok (.iload_n 1, 1) := by decide +kernel
theorem dX0_slotOfTerm_1 : decode cX0_slotOfTerm 1 = .ok (.istore_n 2, 1) := by decide +kernel
theorem dX0_slotOfTerm_2 : decode cX0_slotOfTerm 2 = .ok (.bipush 12, 2) := by decide +kernel
theorem dX0_slotOfTerm_4 : decode cX0_slotOfTerm 4 = .ok (.istore_n 3, 1) := by decide +kernel
theorem dX0_slotOfTerm_5 : decode cX0_slotOfTerm 5 = .ok (.iload_n 3, 1) := by decide +kernel
theorem dX0_slotOfTerm_6 : decode cX0_slotOfTerm 6 = .ok (.ifCond .lt 29, 3) := by decide +kernel
theorem dX0_slotOfTerm_9 : decode cX0_slotOfTerm 9 = .ok (.aload_n 0, 1) := by decide +kernel
theorem dX0_slotOfTerm_10 : decode cX0_slotOfTerm 10 = .ok (.getfield 9, 3) := by decide +kernel
theorem dX0_slotOfTerm_13 : decode cX0_slotOfTerm 13 = .ok (.iload_n 3, 1) := by decide +kernel
theorem dX0_slotOfTerm_14 : decode cX0_slotOfTerm 14 = .ok (.laload, 1) := by decide +kernel
theorem dX0_slotOfTerm_15 : decode cX0_slotOfTerm 15 = .ok (.lconst 0, 1) := by decide +kernel
theorem dX0_slotOfTerm_16 : decode cX0_slotOfTerm 16 = .ok (.lcmp, 1) := by decide +kernel
theorem dX0_slotOfTerm_17 : decode cX0_slotOfTerm 17 = .ok (.ifCond .eq 12, 3) := by decide +kernel
theorem dX0_slotOfTerm_20 : decode cX0_slotOfTerm 20 = .ok (.iload_n 2, 1) := by decide +kernel
theorem dX0_slotOfTerm_21 : decode cX0_slotOfTerm 21 = .ok (.ifCond .ne 5, 3) := by decide +kernel
theorem dX0_slotOfTerm_24 : decode cX0_slotOfTerm 24 = .ok (.iload_n 3, 1) := by decide +kernel
theorem dX0_slotOfTerm_25 : decode cX0_slotOfTerm 25 = .ok (.ireturn, 1) := by decide +kernel
theorem dX0_slotOfTerm_26 : decode cX0_slotOfTerm 26 = .ok (.iinc 2 (-1), 3) := by decide +kernel
theorem dX0_slotOfTerm_29 : decode cX0_slotOfTerm 29 = .ok (.iinc 3 (-1), 3) := by decide +kernel
theorem dX0_slotOfTerm_32 : decode cX0_slotOfTerm 32 = .ok (.goto (-27), 3) := by decide +kernel
theorem dX0_slotOfTerm_35 : decode cX0_slotOfTerm 35 = .ok (.iconst (-1), 1) := by decide +kernel
theorem dX0_slotOfTerm_36 : decode cX0_slotOfTerm 36 = .ok (.ireturn, 1) := by decide +kernel
theorem dX0_clear_0 : decode cX0_clear 0 = .ok (.iconst 0, 1) := by decide +kernel
theorem dX0_clear_1 : decode cX0_clear 1 = .ok (.istore_n 1, 1) := by decide +kernel
theorem dX0_clear_2 : decode cX0_clear 2 = .ok (.iload_n 1, 1) := by decide +kernel
theorem dX0_clear_3 : decode cX0_clear 3 = .ok (.bipush 13, 2) := by decide +kernel
theorem dX0_clear_5 : decode cX0_clear 5 = .ok (.if_icmp .ge 16, 3) := by decide +kernel
theorem dX0_clear_8 : decode cX0_clear 8 = .ok (.aload_n 0, 1) := by decide +kernel
theorem dX0_clear_9 : decode cX0_clear 9 = .ok (.getfield 9, 3) := by decide +kernel
theorem dX0_clear_12 : decode cX0_clear 12 = .ok (.iload_n 1, 1) := by decide +kernel
theorem dX0_clear_13 : decode cX0_clear 13 = .ok (.lconst 0, 1) := by decide +kernel
theorem dX0_clear_14 : decode cX0_clear 14 = .ok (.lastore, 1) := by decide +kernel
theorem dX0_clear_15 : decode cX0_clear 15 = .ok (.iinc 1 1, 3) := by decide +kernel
theorem dX0_clear_18 : decode cX0_clear 18 = .ok (.goto (-16), 3) := by decide +kernel
theorem dX0_clear_21 : decode cX0_clear 21 = .ok (.return_, 1) := by decide +kernel
theorem dX0_become_0 : decode cX0_become 0 = .ok (.iconst 0, 1) := by decide +kernel
theorem dX0_become_1 : decode cX0_become 1 = .ok (.istore_n 2, 1) := by decide +kernel
theorem dX0_become_2 : decode cX0_become 2 = .ok (.iload_n 2, 1) := by decide +kernel
theorem dX0_become_3 : decode cX0_become 3 = .ok (.bipush 13, 2) := by decide +kernel
theorem dX0_become_5 : decode cX0_become 5 = .ok (.if_icmp .ge 21, 3) := by decide +kernel
theorem dX0_become_8 : decode cX0_become 8 = .ok (.aload_n 0, 1) := by decide +kernel
theorem dX0_become_9 : decode cX0_become 9 = .ok (.getfield 9, 3) := by decide +kernel
theorem dX0_become_12 : decode cX0_become 12 = .ok (.iload_n 2, 1) := by decide +kernel
theorem dX0_become_13 : decode cX0_become 13 = .ok (.aload_n 1, 1) := by decide +kernel
theorem dX0_become_14 : decode cX0_become 14 = .ok (.getfield 9, 3) := by decide +kernel
theorem dX0_become_17 : decode cX0_become 17 = .ok (.iload_n 2, 1) := by decide +kernel
theorem dX0_become_18 : decode cX0_become 18 = .ok (.laload, 1) := by decide +kernel
theorem dX0_become_19 : decode cX0_become 19 = .ok (.lastore, 1) := by decide +kernel
theorem dX0_become_20 : decode cX0_become 20 = .ok (.iinc 2 1, 3) := by decide +kernel
theorem dX0_become_23 : decode cX0_become 23 = .ok (.goto (-21), 3) := by decide +kernel
theorem dX0_become_26 : decode cX0_become 26 = .ok (.return_, 1) := by decide +kernel
theorem dX0_put_0 : decode cX0_put 0 = .ok (.iload_n 1, 1) := by decide +kernel
theorem dX0_put_1 : decode cX0_put 1 = .ok (.invokestatic 15, 3) := by decide +kernel
theorem dX0_put_4 : decode cX0_put 4 = .ok (.ifCond .eq 11, 3) := by decide +kernel
theorem dX0_put_7 : decode cX0_put 7 = .ok (.lload_n 2, 1) := by decide +kernel
theorem dX0_put_8 : decode cX0_put 8 = .ok (.ldc2_w 19, 3) := by decide +kernel
theorem dX0_put_11 : decode cX0_put 11 = .ok (.lcmp, 1) := by decide +kernel
theorem dX0_put_12 : decode cX0_put 12 = .ok (.ifCond .ne 5, 3) := by decide +kernel
theorem dX0_put_15 : decode cX0_put 15 = .ok (.iconst 0, 1) := by decide +kernel
theorem dX0_put_16 : decode cX0_put 16 = .ok (.ireturn, 1) := by decide +kernel
theorem dX0_put_17 : decode cX0_put 17 = .ok (.iload_n 1, 1) := by decide +kernel
theorem dX0_put_18 : decode cX0_put 18 = .ok (.bipush 6, 2) := by decide +kernel
theorem dX0_put_20 : decode cX0_put 20 = .ok (.iadd, 1) := by decide +kernel
theorem dX0_put_21 : decode cX0_put 21 = .ok (.istore 4, 2) := by decide +kernel
theorem dX0_put_23 : decode cX0_put 23 = .ok (.aload_n 0, 1) := by decide +kernel
theorem dX0_put_24 : decode cX0_put 24 = .ok (.getfield 9, 3) := by decide +kernel
theorem dX0_put_27 : decode cX0_put 27 = .ok (.iload 4, 2) := by decide +kernel
theorem dX0_put_29 : decode cX0_put 29 = .ok (.laload, 1) := by decide +kernel
theorem dX0_put_30 : decode cX0_put 30 = .ok (.lload_n 2, 1) := by decide +kernel
theorem dX0_put_31 : decode cX0_put 31 = .ok (.ladd, 1) := by decide +kernel
theorem dX0_put_32 : decode cX0_put 32 = .ok (.bipush 20, 2) := by decide +kernel
theorem dX0_put_34 : decode cX0_put 34 = .ok (.invokestatic 21, 3) := by decide +kernel
theorem dX0_put_37 : decode cX0_put 37 = .ok (.lstore 5, 2) := by decide +kernel
theorem dX0_put_39 : decode cX0_put 39 = .ok (.lload 5, 2) := by decide +kernel
theorem dX0_put_41 : decode cX0_put 41 = .ok (.ldc2_w 19, 3) := by decide +kernel
theorem dX0_put_44 : decode cX0_put 44 = .ok (.lcmp, 1) := by decide +kernel
theorem dX0_put_45 : decode cX0_put 45 = .ok (.ifCond .ne 5, 3) := by decide +kernel
theorem dX0_put_48 : decode cX0_put 48 = .ok (.iconst 0, 1) := by decide +kernel
theorem dX0_put_49 : decode cX0_put 49 = .ok (.ireturn, 1) := by decide +kernel
theorem dX0_put_50 : decode cX0_put 50 = .ok (.aload_n 0, 1) := by decide +kernel
theorem dX0_put_51 : decode cX0_put 51 = .ok (.getfield 9, 3) := by decide +kernel
theorem dX0_put_54 : decode cX0_put 54 = .ok (.iload 4, 2) := by decide +kernel
theorem dX0_put_56 : decode cX0_put 56 = .ok (.lload 5, 2) := by decide +kernel
theorem dX0_put_58 : decode cX0_put 58 = .ok (.lastore, 1) := by decide +kernel
theorem dX0_put_59 : decode cX0_put 59 = .ok (.iconst 1, 1) := by decide +kernel
theorem dX0_put_60 : decode cX0_put 60 = .ok (.ireturn, 1) := by decide +kernel
theorem dX0_putProducts_0 : decode cX0_putProducts 0 = .ok (.bipush 12, 2) := by decide +kernel
theorem dX0_putProducts_2 : decode cX0_putProducts 2 = .ok (.istore 5, 2) := by decide +kernel
theorem dX0_putProducts_4 : decode cX0_putProducts 4 = .ok (.iload 5, 2) := by decide +kernel
theorem dX0_putProducts_6 : decode cX0_putProducts 6 = .ok (.ifCond .lt 48, 3) := by decide +kernel
theorem dX0_putProducts_9 : decode cX0_putProducts 9 = .ok (.aload 4, 2) := by decide +kernel
theorem dX0_putProducts_11 : decode cX0_putProducts 11 = .ok (.getfield 9, 3) := by decide +kernel
theorem dX0_putProducts_14 : decode cX0_putProducts 14 = .ok (.iload 5, 2) := by decide +kernel
theorem dX0_putProducts_16 : decode cX0_putProducts 16 = .ok (.laload, 1) := by decide +kernel
theorem dX0_putProducts_17 : decode cX0_putProducts 17 = .ok (.lstore 6, 2) := by decide +kernel
theorem dX0_putProducts_19 : decode cX0_putProducts 19 = .ok (.lload 6, 2) := by decide +kernel
theorem dX0_putProducts_21 : decode cX0_putProducts 21 = .ok (.lconst 0, 1) := by decide +kernel
theorem dX0_putProducts_22 : decode cX0_putProducts 22 = .ok (.lcmp, 1) := by decide +kernel
theorem dX0_putProducts_23 : decode cX0_putProducts 23 = .ok (.ifCond .eq 25, 3) := by decide +kernel
theorem dX0_putProducts_26 : decode cX0_putProducts 26 = .ok (.aload_n 0, 1) := by decide +kernel
theorem dX0_putProducts_27 : decode cX0_putProducts 27 = .ok (.iload_n 1, 1) := by decide +kernel
theorem dX0_putProducts_28 : decode cX0_putProducts 28 = .ok (.iload 5, 2) := by decide +kernel
theorem dX0_putProducts_30 : decode cX0_putProducts 30 = .ok (.iadd, 1) := by decide +kernel
theorem dX0_putProducts_31 : decode cX0_putProducts 31 = .ok (.bipush 6, 2) := by decide +kernel
theorem dX0_putProducts_33 : decode cX0_putProducts 33 = .ok (.isub, 1) := by decide +kernel
theorem dX0_putProducts_34 : decode cX0_putProducts 34 = .ok (.lload_n 2, 1) := by decide +kernel
theorem dX0_putProducts_35 : decode cX0_putProducts 35 = .ok (.lload 6, 2) := by decide +kernel
theorem dX0_putProducts_37 : decode cX0_putProducts 37 = .ok (.invokestatic 25, 3) := by decide +kernel
theorem dX0_putProducts_40 : decode cX0_putProducts 40 = .ok (.invokevirtual 29, 3) := by decide +kernel
theorem dX0_putProducts_43 : decode cX0_putProducts 43 = .ok (.ifCond .ne 5, 3) := by decide +kernel
theorem dX0_putProducts_46 : decode cX0_putProducts 46 = .ok (.iconst 0, 1) := by decide +kernel
theorem dX0_putProducts_47 : decode cX0_putProducts 47 = .ok (.ireturn, 1) := by decide +kernel
theorem dX0_putProducts_48 : decode cX0_putProducts 48 = .ok (.iinc 5 (-1), 3) := by decide +kernel
theorem dX0_putProducts_51 : decode cX0_putProducts 51 = .ok (.goto (-47), 3) := by decide +kernel
theorem dX0_putProducts_54 : decode cX0_putProducts 54 = .ok (.iconst 1, 1) := by decide +kernel
theorem dX0_putProducts_55 : decode cX0_putProducts 55 = .ok (.ireturn, 1) := by decide +kernel
theorem dX0_becomeTogether_0 : decode cX0_becomeTogether 0 = .ok (.aload_n 0, 1) := by decide +kernel
theorem dX0_becomeTogether_1 : decode cX0_becomeTogether 1 = .ok (.aload_n 1, 1) := by decide +kernel
theorem dX0_becomeTogether_2 : decode cX0_becomeTogether 2 = .ok (.invokevirtual 33, 3) := by decide +kernel
theorem dX0_becomeTogether_5 : decode cX0_becomeTogether 5 = .ok (.bipush 12, 2) := by decide +kernel
theorem dX0_becomeTogether_7 : decode cX0_becomeTogether 7 = .ok (.istore 4, 2) := by decide +kernel
theorem dX0_becomeTogether_9 : decode cX0_becomeTogether 9 = .ok (.iload 4, 2) := by decide +kernel
theorem dX0_becomeTogether_11 : decode cX0_becomeTogether 11 = .ok (.ifCond .lt 51, 3) := by decide +kernel
theorem dX0_becomeTogether_14 : decode cX0_becomeTogether 14 = .ok (.aload_n 2, 1) := by decide +kernel
theorem dX0_becomeTogether_15 : decode cX0_becomeTogether 15 = .ok (.getfield 9, 3) := by decide +kernel
theorem dX0_becomeTogether_18 : decode cX0_becomeTogether 18 = .ok (.iload 4, 2) := by decide +kernel
theorem dX0_becomeTogether_20 : decode cX0_becomeTogether 20 = .ok (.laload, 1) := by decide +kernel
theorem dX0_becomeTogether_21 : decode cX0_becomeTogether 21 = .ok (.lstore 5, 2) := by decide +kernel
theorem dX0_becomeTogether_23 : decode cX0_becomeTogether 23 = .ok (.lload 5, 2) := by decide +kernel
theorem dX0_becomeTogether_25 : decode cX0_becomeTogether 25 = .ok (.lconst 0, 1) := by decide +kernel
theorem dX0_becomeTogether_26 : decode cX0_becomeTogether 26 = .ok (.lcmp, 1) := by decide +kernel
theorem dX0_becomeTogether_27 : decode cX0_becomeTogether 27 = .ok (.ifCond .eq 29, 3) := by decide +kernel
theorem dX0_becomeTogether_30 : decode cX0_becomeTogether 30 = .ok (.aload_n 0, 1) := by decide +kernel
theorem dX0_becomeTogether_31 : decode cX0_becomeTogether 31 = .ok (.iload 4, 2) := by decide +kernel
theorem dX0_becomeTogether_33 : decode cX0_becomeTogether 33 = .ok (.bipush 6, 2) := by decide +kernel
theorem dX0_becomeTogether_35 : decode cX0_becomeTogether 35 = .ok (.isub, 1) := by decide +kernel
theorem dX0_becomeTogether_36 : decode cX0_becomeTogether 36 = .ok (.iload_n 3, 1) := by decide +kernel
theorem dX0_becomeTogether_37 : decode cX0_becomeTogether 37 = .ok (.ifCond .eq 9, 3) := by decide +kernel
theorem dX0_becomeTogether_40 : decode cX0_becomeTogether 40 = .ok (.lload 5, 2) := by decide +kernel
theorem dX0_becomeTogether_42 : decode cX0_becomeTogether 42 = .ok (.lneg, 1) := by decide +kernel
theorem dX0_becomeTogether_43 : decode cX0_becomeTogether 43 = .ok (.goto 5, 3) := by decide +kernel
theorem dX0_becomeTogether_46 : decode cX0_becomeTogether 46 = .ok (.lload 5, 2) := by decide +kernel
theorem dX0_becomeTogether_48 : decode cX0_becomeTogether 48 = .ok (.invokevirtual 29, 3) := by decide +kernel
theorem dX0_becomeTogether_51 : decode cX0_becomeTogether 51 = .ok (.ifCond .ne 5, 3) := by decide +kernel
theorem dX0_becomeTogether_54 : decode cX0_becomeTogether 54 = .ok (.iconst 0, 1) := by decide +kernel
theorem dX0_becomeTogether_55 : decode cX0_becomeTogether 55 = .ok (.ireturn, 1) := by decide +kernel
theorem dX0_becomeTogether_56 : decode cX0_becomeTogether 56 = .ok (.iinc 4 (-1), 3) := by decide +kernel
theorem dX0_becomeTogether_59 : decode cX0_becomeTogether 59 = .ok (.goto (-50), 3) := by decide +kernel
theorem dX0_becomeTogether_62 : decode cX0_becomeTogether 62 = .ok (.iconst 1, 1) := by decide +kernel
theorem dX0_becomeTogether_63 : decode cX0_becomeTogether 63 = .ok (.ireturn, 1) := by decide +kernel
theorem dX0_becomeProduct_0 : decode cX0_becomeProduct 0 = .ok (.aload_n 0, 1) := by decide +kernel
theorem dX0_becomeProduct_1 : decode cX0_becomeProduct 1 = .ok (.invokevirtual 37, 3) := by decide +kernel
theorem dX0_becomeProduct_4 : decode cX0_becomeProduct 4 = .ok (.bipush 12, 2) := by decide +kernel
theorem dX0_becomeProduct_6 : decode cX0_becomeProduct 6 = .ok (.istore_n 3, 1) := by decide +kernel
theorem dX0_becomeProduct_7 : decode cX0_becomeProduct 7 = .ok (.iload_n 3, 1) := by decide +kernel
theorem dX0_becomeProduct_8 : decode cX0_becomeProduct 8 = .ok (.ifCond .lt 40, 3) := by decide +kernel
theorem dX0_becomeProduct_11 : decode cX0_becomeProduct 11 = .ok (.aload_n 1, 1) := by decide +kernel
theorem dX0_becomeProduct_12 : decode cX0_becomeProduct 12 = .ok (.getfield 9, 3) := by decide +kernel
theorem dX0_becomeProduct_15 : decode cX0_becomeProduct 15 = .ok (.iload_n 3, 1) := by decide +kernel
theorem dX0_becomeProduct_16 : decode cX0_becomeProduct 16 = .ok (.laload, 1) := by decide +kernel
theorem dX0_becomeProduct_17 : decode cX0_becomeProduct 17 = .ok (.lstore 4, 2) := by decide +kernel
theorem dX0_becomeProduct_19 : decode cX0_becomeProduct 19 = .ok (.lload 4, 2) := by decide +kernel
theorem dX0_becomeProduct_21 : decode cX0_becomeProduct 21 = .ok (.lconst 0, 1) := by decide +kernel
theorem dX0_becomeProduct_22 : decode cX0_becomeProduct 22 = .ok (.lcmp, 1) := by decide +kernel
theorem dX0_becomeProduct_23 : decode cX0_becomeProduct 23 = .ok (.ifCond .eq 19, 3) := by decide +kernel
theorem dX0_becomeProduct_26 : decode cX0_becomeProduct 26 = .ok (.aload_n 0, 1) := by decide +kernel
theorem dX0_becomeProduct_27 : decode cX0_becomeProduct 27 = .ok (.iload_n 3, 1) := by decide +kernel
theorem dX0_becomeProduct_28 : decode cX0_becomeProduct 28 = .ok (.bipush 6, 2) := by decide +kernel
theorem dX0_becomeProduct_30 : decode cX0_becomeProduct 30 = .ok (.isub, 1) := by decide +kernel
theorem dX0_becomeProduct_31 : decode cX0_becomeProduct 31 = .ok (.lload 4, 2) := by decide +kernel
theorem dX0_becomeProduct_33 : decode cX0_becomeProduct 33 = .ok (.aload_n 2, 1) := by decide +kernel
theorem dX0_becomeProduct_34 : decode cX0_becomeProduct 34 = .ok (.invokevirtual 40, 3) := by decide +kernel
theorem dX0_becomeProduct_37 : decode cX0_becomeProduct 37 = .ok (.ifCond .ne 5, 3) := by decide +kernel
theorem dX0_becomeProduct_40 : decode cX0_becomeProduct 40 = .ok (.iconst 0, 1) := by decide +kernel
theorem dX0_becomeProduct_41 : decode cX0_becomeProduct 41 = .ok (.ireturn, 1) := by decide +kernel
theorem dX0_becomeProduct_42 : decode cX0_becomeProduct 42 = .ok (.iinc 3 (-1), 3) := by decide +kernel
theorem dX0_becomeProduct_45 : decode cX0_becomeProduct 45 = .ok (.goto (-38), 3) := by decide +kernel
theorem dX0_becomeProduct_48 : decode cX0_becomeProduct 48 = .ok (.iconst 1, 1) := by decide +kernel
theorem dX0_becomeProduct_49 : decode cX0_becomeProduct 49 = .ok (.ireturn, 1) := by decide +kernel
theorem dX1_init_0 : decode cX1_init 0 = .ok (.aload_n 0, 1) := by decide +kernel
theorem dX1_init_1 : decode cX1_init 1 = .ok (.invokespecial 3, 3) := by decide +kernel
theorem dX1_init_4 : decode cX1_init 4 = .ok (.aload_n 0, 1) := by decide +kernel
theorem dX1_init_5 : decode cX1_init 5 = .ok (.bipush 12, 2) := by decide +kernel
theorem dX1_init_7 : decode cX1_init 7 = .ok (.newarray .int, 2) := by decide +kernel
theorem dX1_init_9 : decode cX1_init 9 = .ok (.putfield 9, 3) := by decide +kernel
theorem dX1_init_12 : decode cX1_init 12 = .ok (.aload_n 0, 1) := by decide +kernel
theorem dX1_init_13 : decode cX1_init 13 = .ok (.bipush 12, 2) := by decide +kernel
theorem dX1_init_15 : decode cX1_init 15 = .ok (.newarray .int, 2) := by decide +kernel
theorem dX1_init_17 : decode cX1_init 17 = .ok (.putfield 13, 3) := by decide +kernel
theorem dX1_init_20 : decode cX1_init 20 = .ok (.aload_n 0, 1) := by decide +kernel
theorem dX1_init_21 : decode cX1_init 21 = .ok (.bipush 12, 2) := by decide +kernel
theorem dX1_init_23 : decode cX1_init 23 = .ok (.newarray .long, 2) := by decide +kernel
theorem dX1_init_25 : decode cX1_init 25 = .ok (.putfield 16, 3) := by decide +kernel
theorem dX1_init_28 : decode cX1_init 28 = .ok (.aload_n 0, 1) := by decide +kernel
theorem dX1_init_29 : decode cX1_init 29 = .ok (.bipush (-4), 2) := by decide +kernel
theorem dX1_init_31 : decode cX1_init 31 = .ok (.putfield 20, 3) := by decide +kernel
theorem dX1_init_34 : decode cX1_init 34 = .ok (.aload_n 0, 1) := by decide +kernel
theorem dX1_init_35 : decode cX1_init 35 = .ok (.bipush (-4), 2) := by decide +kernel
theorem dX1_init_37 : decode cX1_init 37 = .ok (.putfield 24, 3) := by decide +kernel
theorem dX1_init_40 : decode cX1_init 40 = .ok (.aload_n 0, 1) := by decide +kernel
theorem dX1_init_41 : decode cX1_init 41 = .ok (.bipush 8, 2) := by decide +kernel
theorem dX1_init_43 : decode cX1_init 43 = .ok (.anewarray 27, 3) := by decide +kernel
theorem dX1_init_46 : decode cX1_init 46 = .ok (.putfield 29, 3) := by decide +kernel
theorem dX1_init_49 : decode cX1_init 49 = .ok (.aload_n 0, 1) := by decide +kernel
theorem dX1_init_50 : decode cX1_init 50 = .ok (.new 27, 3) := by decide +kernel
theorem dX1_init_53 : decode cX1_init 53 = .ok (.dup, 1) := by decide +kernel
theorem dX1_init_54 : decode cX1_init 54 = .ok (.invokespecial 33, 3) := by decide +kernel
theorem dX1_init_57 : decode cX1_init 57 = .ok (.putfield 34, 3) := by decide +kernel
theorem dX1_init_60 : decode cX1_init 60 = .ok (.aload_n 0, 1) := by decide +kernel
theorem dX1_init_61 : decode cX1_init 61 = .ok (.new 27, 3) := by decide +kernel
theorem dX1_init_64 : decode cX1_init 64 = .ok (.dup, 1) := by decide +kernel
theorem dX1_init_65 : decode cX1_init 65 = .ok (.invokespecial 33, 3) := by decide +kernel
theorem dX1_init_68 : decode cX1_init 68 = .ok (.putfield 38, 3) := by decide +kernel
theorem dX1_init_71 : decode cX1_init 71 = .ok (.iconst 0, 1) := by decide +kernel
theorem dX1_init_72 : decode cX1_init 72 = .ok (.istore_n 1, 1) := by decide +kernel
theorem dX1_init_73 : decode cX1_init 73 = .ok (.iload_n 1, 1) := by decide +kernel
theorem dX1_init_74 : decode cX1_init 74 = .ok (.bipush 8, 2) := by decide +kernel
theorem dX1_init_76 : decode cX1_init 76 = .ok (.if_icmp .ge 22, 3) := by decide +kernel
theorem dX1_init_79 : decode cX1_init 79 = .ok (.aload_n 0, 1) := by decide +kernel
theorem dX1_init_80 : decode cX1_init 80 = .ok (.getfield 29, 3) := by decide +kernel
theorem dX1_init_83 : decode cX1_init 83 = .ok (.iload_n 1, 1) := by decide +kernel
theorem dX1_init_84 : decode cX1_init 84 = .ok (.new 27, 3) := by decide +kernel
theorem dX1_init_87 : decode cX1_init 87 = .ok (.dup, 1) := by decide +kernel
theorem dX1_init_88 : decode cX1_init 88 = .ok (.invokespecial 33, 3) := by decide +kernel
theorem dX1_init_91 : decode cX1_init 91 = .ok (.aastore, 1) := by decide +kernel
theorem dX1_init_92 : decode cX1_init 92 = .ok (.iinc 1 1, 3) := by decide +kernel
theorem dX1_init_95 : decode cX1_init 95 = .ok (.goto (-22), 3) := by decide +kernel
theorem dX1_init_98 : decode cX1_init 98 = .ok (.return_, 1) := by decide +kernel
theorem dX1_row_0 : decode cX1_row 0 = .ok (.iload_n 1, 1) := by decide +kernel
theorem dX1_row_1 : decode cX1_row 1 = .ok (.invokestatic 41, 3) := by decide +kernel
theorem dX1_row_4 : decode cX1_row 4 = .ok (.ifCond .eq 19, 3) := by decide +kernel
theorem dX1_row_7 : decode cX1_row 7 = .ok (.iload_n 2, 1) := by decide +kernel
theorem dX1_row_8 : decode cX1_row 8 = .ok (.ifCond .lt 15, 3) := by decide +kernel
theorem dX1_row_11 : decode cX1_row 11 = .ok (.iload_n 2, 1) := by decide +kernel
theorem dX1_row_12 : decode cX1_row 12 = .ok (.bipush 24, 2) := by decide +kernel
theorem dX1_row_14 : decode cX1_row 14 = .ok (.if_icmp .gt 9, 3) := by decide +kernel
theorem dX1_row_17 : decode cX1_row 17 = .ok (.iload_n 3, 1) := by decide +kernel
theorem dX1_row_18 : decode cX1_row 18 = .ok (.iload_n 2, 1) := by decide +kernel
theorem dX1_row_19 : decode cX1_row 19 = .ok (.iushr, 1) := by decide +kernel
theorem dX1_row_20 : decode cX1_row 20 = .ok (.ifCond .eq 5, 3) := by decide +kernel
theorem dX1_row_23 : decode cX1_row 23 = .ok (.iconst (-1), 1) := by decide +kernel
theorem dX1_row_24 : decode cX1_row 24 = .ok (.ireturn, 1) := by decide +kernel
theorem dX1_row_25 : decode cX1_row 25 = .ok (.aload_n 0, 1) := by decide +kernel
theorem dX1_row_26 : decode cX1_row 26 = .ok (.iload_n 1, 1) := by decide +kernel
theorem dX1_row_27 : decode cX1_row 27 = .ok (.iload_n 2, 1) := by decide +kernel
theorem dX1_row_28 : decode cX1_row 28 = .ok (.iload_n 3, 1) := by decide +kernel
theorem dX1_row_29 : decode cX1_row 29 = .ok (.invokevirtual 45, 3) := by decide +kernel
theorem dX1_row_32 : decode cX1_row 32 = .ok (.ireturn, 1) := by decide +kernel
theorem dX1_number_0 : decode cX1_number 0 = .ok (.iload_n 1, 1) := by decide +kernel
theorem dX1_number_1 : decode cX1_number 1 = .ok (.invokestatic 41, 3) := by decide +kernel
theorem dX1_number_4 : decode cX1_number 4 = .ok (.ifCond .eq 11, 3) := by decide +kernel
theorem dX1_number_7 : decode cX1_number 7 = .ok (.iload_n 2, 1) := by decide +kernel
theorem dX1_number_8 : decode cX1_number 8 = .ok (.iload_n 3, 1) := by decide +kernel
theorem dX1_number_9 : decode cX1_number 9 = .ok (.invokestatic 49, 3) := by decide +kernel
theorem dX1_number_12 : decode cX1_number 12 = .ok (.ifCond .ne 5, 3) := by decide +kernel
theorem dX1_number_15 : decode cX1_number 15 = .ok (.iconst (-1), 1) := by decide +kernel
theorem dX1_number_16 : decode cX1_number 16 = .ok (.ireturn, 1) := by decide +kernel
theorem dX1_number_17 : decode cX1_number 17 = .ok (.aload_n 0, 1) := by decide +kernel
theorem dX1_number_18 : decode cX1_number 18 = .ok (.iload_n 1, 1) := by decide +kernel
theorem dX1_number_19 : decode cX1_number 19 = .ok (.iload_n 2, 1) := by decide +kernel
theorem dX1_number_20 : decode cX1_number 20 = .ok (.i2l, 1) := by decide +kernel
theorem dX1_number_21 : decode cX1_number 21 = .ok (.bipush 23, 2) := by decide +kernel
theorem dX1_number_23 : decode cX1_number 23 = .ok (.iload_n 3, 1) := by decide +kernel
theorem dX1_number_24 : decode cX1_number 24 = .ok (.isub, 1) := by decide +kernel
theorem dX1_number_25 : decode cX1_number 25 = .ok (.lshl, 1) := by decide +kernel
theorem dX1_number_26 : decode cX1_number 26 = .ok (.invokevirtual 53, 3) := by decide +kernel
theorem dX1_number_29 : decode cX1_number 29 = .ok (.ireturn, 1) := by decide +kernel
theorem dX1_at_0 : decode cX1_at 0 = .ok (.iload_n 1, 1) := by decide +kernel
theorem dX1_at_1 : decode cX1_at 1 = .ok (.invokestatic 41, 3) := by decide +kernel
theorem dX1_at_4 : decode cX1_at 4 = .ok (.ifCond .eq 8, 3) := by decide +kernel
theorem dX1_at_7 : decode cX1_at 7 = .ok (.iload_n 2, 1) := by decide +kernel
theorem dX1_at_8 : decode cX1_at 8 = .ok (.iconst (-1), 1) := by decide +kernel
theorem dX1_at_9 : decode cX1_at 9 = .ok (.if_icmp .ge 5, 3) := by decide +kernel
theorem dX1_at_12 : decode cX1_at 12 = .ok (.iconst (-1), 1) := by decide +kernel
theorem dX1_at_13 : decode cX1_at 13 = .ok (.ireturn, 1) := by decide +kernel
theorem dX1_at_14 : decode cX1_at 14 = .ok (.iload_n 2, 1) := by decide +kernel
theorem dX1_at_15 : decode cX1_at 15 = .ok (.iconst (-1), 1) := by decide +kernel
theorem dX1_at_16 : decode cX1_at 16 = .ok (.if_icmp .ne 10, 3) := by decide +kernel
theorem dX1_at_19 : decode cX1_at 19 = .ok (.aload_n 0, 1) := by decide +kernel
theorem dX1_at_20 : decode cX1_at 20 = .ok (.getfield 9, 3) := by decide +kernel
theorem dX1_at_23 : decode cX1_at 23 = .ok (.iload_n 1, 1) := by decide +kernel
theorem dX1_at_24 : decode cX1_at 24 = .ok (.iaload, 1) := by decide +kernel
theorem dX1_at_25 : decode cX1_at 25 = .ok (.ireturn, 1) := by decide +kernel
theorem dX1_at_26 : decode cX1_at 26 = .ok (.iload_n 2, 1) := by decide +kernel
theorem dX1_at_27 : decode cX1_at 27 = .ok (.aload_n 0, 1) := by decide +kernel
theorem dX1_at_28 : decode cX1_at 28 = .ok (.getfield 9, 3) := by decide +kernel
theorem dX1_at_31 : decode cX1_at 31 = .ok (.iload_n 1, 1) := by decide +kernel
theorem dX1_at_32 : decode cX1_at 32 = .ok (.iaload, 1) := by decide +kernel
theorem dX1_at_33 : decode cX1_at 33 = .ok (.if_icmp .lt 6, 3) := by decide +kernel
theorem dX1_at_36 : decode cX1_at 36 = .ok (.bipush (-4), 2) := by decide +kernel
theorem dX1_at_38 : decode cX1_at 38 = .ok (.ireturn, 1) := by decide +kernel
theorem dX1_at_39 : decode cX1_at 39 = .ok (.aload_n 0, 1) := by decide +kernel
theorem dX1_at_40 : decode cX1_at 40 = .ok (.getfield 13, 3) := by decide +kernel
theorem dX1_at_43 : decode cX1_at 43 = .ok (.iload_n 1, 1) := by decide +kernel
theorem dX1_at_44 : decode cX1_at 44 = .ok (.iaload, 1) := by decide +kernel
theorem dX1_at_45 : decode cX1_at 45 = .ok (.iload_n 2, 1) := by decide +kernel
theorem dX1_at_46 : decode cX1_at 46 = .ok (.invokestatic 57, 3) := by decide +kernel
theorem dX1_at_49 : decode cX1_at 49 = .ok (.ifCond .eq 7, 3) := by decide +kernel
theorem dX1_at_52 : decode cX1_at 52 = .ok (.iconst 1, 1) := by decide +kernel
theorem dX1_at_53 : decode cX1_at 53 = .ok (.goto 4, 3) := by decide +kernel
theorem dX1_at_56 : decode cX1_at 56 = .ok (.iconst 0, 1) := by decide +kernel
theorem dX1_at_57 : decode cX1_at 57 = .ok (.ireturn, 1) := by decide +kernel
theorem dX1_value_0 : decode cX1_value 0 = .ok (.iload_n 1, 1) := by decide +kernel
theorem dX1_value_1 : decode cX1_value 1 = .ok (.invokestatic 41, 3) := by decide +kernel
theorem dX1_value_4 : decode cX1_value 4 = .ok (.ifCond .eq 12, 3) := by decide +kernel
theorem dX1_value_7 : decode cX1_value 7 = .ok (.iload_n 2, 1) := by decide +kernel
theorem dX1_value_8 : decode cX1_value 8 = .ok (.ifCond .lt 8, 3) := by decide +kernel
theorem dX1_value_11 : decode cX1_value 11 = .ok (.iload_n 2, 1) := by decide +kernel
theorem dX1_value_12 : decode cX1_value 12 = .ok (.iconst 1, 1) := by decide +kernel
theorem dX1_value_13 : decode cX1_value 13 = .ok (.if_icmp .le 6, 3) := by decide +kernel
theorem dX1_value_16 : decode cX1_value 16 = .ok (.ldc 60, 2) := by decide +kernel
theorem dX1_value_18 : decode cX1_value 18 = .ok (.ireturn, 1) := by decide +kernel
theorem dX1_value_19 : decode cX1_value 19 = .ok (.iload_n 2, 1) := by decide +kernel
theorem dX1_value_20 : decode cX1_value 20 = .ok (.ifCond .ne 17, 3) := by decide +kernel
theorem dX1_value_23 : decode cX1_value 23 = .ok (.aload_n 0, 1) := by decide +kernel
theorem dX1_value_24 : decode cX1_value 24 = .ok (.getfield 16, 3) := by decide +kernel
theorem dX1_value_27 : decode cX1_value 27 = .ok (.iload_n 1, 1) := by decide +kernel
theorem dX1_value_28 : decode cX1_value 28 = .ok (.laload, 1) := by decide +kernel
theorem dX1_value_29 : decode cX1_value 29 = .ok (.bipush 23, 2) := by decide +kernel
theorem dX1_value_31 : decode cX1_value 31 = .ok (.invokestatic 61, 3) := by decide +kernel
theorem dX1_value_34 : decode cX1_value 34 = .ok (.goto 14, 3) := by decide +kernel
theorem dX1_value_37 : decode cX1_value 37 = .ok (.aload_n 0, 1) := by decide +kernel
theorem dX1_value_38 : decode cX1_value 38 = .ok (.getfield 16, 3) := by decide +kernel
theorem dX1_value_41 : decode cX1_value 41 = .ok (.iload_n 1, 1) := by decide +kernel
theorem dX1_value_42 : decode cX1_value 42 = .ok (.laload, 1) := by decide +kernel
theorem dX1_value_43 : decode cX1_value 43 = .ok (.bipush 23, 2) := by decide +kernel
theorem dX1_value_45 : decode cX1_value 45 = .ok (.invokestatic 65, 3) := by decide +kernel
theorem dX1_value_48 : decode cX1_value 48 = .ok (.ireturn, 1) := by decide +kernel
theorem dX1_against_0 : decode cX1_against 0 = .ok (.iload_n 1, 1) := by decide +kernel
theorem dX1_against_1 : decode cX1_against 1 = .ok (.invokestatic 41, 3) := by decide +kernel
theorem dX1_against_4 : decode cX1_against 4 = .ok (.ifCond .eq 10, 3) := by decide +kernel
theorem dX1_against_7 : decode cX1_against 7 = .ok (.iload_n 2, 1) := by decide +kernel
theorem dX1_against_8 : decode cX1_against 8 = .ok (.invokestatic 41, 3) := by decide +kernel
theorem dX1_against_11 : decode cX1_against 11 = .ok (.ifCond .ne 6, 3) := by decide +kernel
theorem dX1_against_14 : decode cX1_against 14 = .ok (.bipush (-9), 2) := by decide +kernel
theorem dX1_against_16 : decode cX1_against 16 = .ok (.ireturn, 1) := by decide +kernel
theorem dX1_against_17 : decode cX1_against 17 = .ok (.aload_n 0, 1) := by decide +kernel
theorem dX1_against_18 : decode cX1_against 18 = .ok (.getfield 16, 3) := by decide +kernel
theorem dX1_against_21 : decode cX1_against 21 = .ok (.iload_n 1, 1) := by decide +kernel
theorem dX1_against_22 : decode cX1_against 22 = .ok (.laload, 1) := by decide +kernel
theorem dX1_against_23 : decode cX1_against 23 = .ok (.aload_n 0, 1) := by decide +kernel
theorem dX1_against_24 : decode cX1_against 24 = .ok (.getfield 16, 3) := by decide +kernel
theorem dX1_against_27 : decode cX1_against 27 = .ok (.iload_n 2, 1) := by decide +kernel
theorem dX1_against_28 : decode cX1_against 28 = .ok (.laload, 1) := by decide +kernel
theorem dX1_against_29 : decode cX1_against 29 = .ok (.lsub, 1) := by decide +kernel
theorem dX1_against_30 : decode cX1_against 30 = .ok (.invokestatic 68, 3) := by decide +kernel
theorem dX1_against_33 : decode cX1_against 33 = .ok (.ireturn, 1) := by decide +kernel
theorem dX1_work_0 : decode cX1_work 0 = .ok (.iload_n 1, 1) := by decide +kernel
theorem dX1_work_1 : decode cX1_work 1 = .ok (.invokestatic 41, 3) := by decide +kernel
theorem dX1_work_4 : decode cX1_work 4 = .ok (.ifCond .eq 19, 3) := by decide +kernel
theorem dX1_work_7 : decode cX1_work 7 = .ok (.iload_n 2, 1) := by decide +kernel
theorem dX1_work_8 : decode cX1_work 8 = .ok (.ifCond .lt 15, 3) := by decide +kernel
theorem dX1_work_11 : decode cX1_work 11 = .ok (.iload_n 2, 1) := by decide +kernel
theorem dX1_work_12 : decode cX1_work 12 = .ok (.iconst 3, 1) := by decide +kernel
theorem dX1_work_13 : decode cX1_work 13 = .ok (.if_icmp .gt 10, 3) := by decide +kernel
theorem dX1_work_16 : decode cX1_work 16 = .ok (.iload_n 3, 1) := by decide +kernel
theorem dX1_work_17 : decode cX1_work 17 = .ok (.invokestatic 41, 3) := by decide +kernel
theorem dX1_work_20 : decode cX1_work 20 = .ok (.ifCond .ne 5, 3) := by decide +kernel
theorem dX1_work_23 : decode cX1_work 23 = .ok (.iconst (-1), 1) := by decide +kernel
theorem dX1_work_24 : decode cX1_work 24 = .ok (.ireturn, 1) := by decide +kernel
theorem dX1_work_25 : decode cX1_work 25 = .ok (.iload_n 2, 1) := by decide +kernel
theorem dX1_work_26 : decode cX1_work 26 = .ok (.iconst 3, 1) := by decide +kernel
theorem dX1_work_27 : decode cX1_work 27 = .ok (.if_icmp .ne 16, 3) := by decide +kernel
theorem dX1_work_30 : decode cX1_work 30 = .ok (.aload_n 0, 1) := by decide +kernel
theorem dX1_work_31 : decode cX1_work 31 = .ok (.iload_n 1, 1) := by decide +kernel
theorem dX1_work_32 : decode cX1_work 32 = .ok (.aload_n 0, 1) := by decide +kernel
theorem dX1_work_33 : decode cX1_work 33 = .ok (.getfield 16, 3) := by decide +kernel
theorem dX1_work_36 : decode cX1_work 36 = .ok (.iload_n 3, 1) := by decide +kernel
theorem dX1_work_37 : decode cX1_work 37 = .ok (.laload, 1) := by decide +kernel
theorem dX1_work_38 : decode cX1_work 38 = .ok (.lneg, 1) := by decide +kernel
theorem dX1_work_39 : decode cX1_work 39 = .ok (.invokevirtual 53, 3) := by decide +kernel
theorem dX1_work_42 : decode cX1_work 42 = .ok (.ireturn, 1) := by decide +kernel
theorem dX1_work_43 : decode cX1_work 43 = .ok (.iload 4, 2) := by decide +kernel
theorem dX1_work_45 : decode cX1_work 45 = .ok (.invokestatic 41, 3) := by decide +kernel
theorem dX1_work_48 : decode cX1_work 48 = .ok (.ifCond .ne 5, 3) := by decide +kernel
theorem dX1_work_51 : decode cX1_work 51 = .ok (.iconst (-1), 1) := by decide +kernel
theorem dX1_work_52 : decode cX1_work 52 = .ok (.ireturn, 1) := by decide +kernel
theorem dX1_work_53 : decode cX1_work 53 = .ok (.iload_n 2, 1) := by decide +kernel
theorem dX1_work_54 : decode cX1_work 54 = .ok (.iconst 2, 1) := by decide +kernel
theorem dX1_work_55 : decode cX1_work 55 = .ok (.if_icmp .ne 23, 3) := by decide +kernel
theorem dX1_work_58 : decode cX1_work 58 = .ok (.aload_n 0, 1) := by decide +kernel
theorem dX1_work_59 : decode cX1_work 59 = .ok (.iload_n 1, 1) := by decide +kernel
theorem dX1_work_60 : decode cX1_work 60 = .ok (.aload_n 0, 1) := by decide +kernel
theorem dX1_work_61 : decode cX1_work 61 = .ok (.getfield 16, 3) := by decide +kernel
theorem dX1_work_64 : decode cX1_work 64 = .ok (.iload_n 3, 1) := by decide +kernel
theorem dX1_work_65 : decode cX1_work 65 = .ok (.laload, 1) := by decide +kernel
theorem dX1_work_66 : decode cX1_work 66 = .ok (.aload_n 0, 1) := by decide +kernel
theorem dX1_work_67 : decode cX1_work 67 = .ok (.getfield 16, 3) := by decide +kernel
theorem dX1_work_70 : decode cX1_work 70 = .ok (.iload 4, 2) := by decide +kernel
theorem dX1_work_72 : decode cX1_work 72 = .ok (.laload, 1) := by decide +kernel
theorem dX1_work_73 : decode cX1_work 73 = .ok (.lmul, 1) := by decide +kernel
theorem dX1_work_74 : decode cX1_work 74 = .ok (.invokevirtual 72, 3) := by decide +kernel
theorem dX1_work_77 : decode cX1_work 77 = .ok (.ireturn, 1) := by decide +kernel
theorem dX1_work_78 : decode cX1_work 78 = .ok (.aload_n 0, 1) := by decide +kernel
theorem dX1_work_79 : decode cX1_work 79 = .ok (.iload_n 1, 1) := by decide +kernel
theorem dX1_work_80 : decode cX1_work 80 = .ok (.iload_n 2, 1) := by decide +kernel
theorem dX1_work_81 : decode cX1_work 81 = .ok (.ifCond .ne 20, 3) := by decide +kernel
theorem dX1_work_84 : decode cX1_work 84 = .ok (.aload_n 0, 1) := by decide +kernel
theorem dX1_work_85 : decode cX1_work 85 = .ok (.getfield 16, 3) := by decide +kernel
theorem dX1_work_88 : decode cX1_work 88 = .ok (.iload_n 3, 1) := by decide +kernel
theorem dX1_work_89 : decode cX1_work 89 = .ok (.laload, 1) := by decide +kernel
theorem dX1_work_90 : decode cX1_work 90 = .ok (.aload_n 0, 1) := by decide +kernel
theorem dX1_work_91 : decode cX1_work 91 = .ok (.getfield 16, 3) := by decide +kernel
theorem dX1_work_94 : decode cX1_work 94 = .ok (.iload 4, 2) := by decide +kernel
theorem dX1_work_96 : decode cX1_work 96 = .ok (.laload, 1) := by decide +kernel
theorem dX1_work_97 : decode cX1_work 97 = .ok (.ladd, 1) := by decide +kernel
theorem dX1_work_98 : decode cX1_work 98 = .ok (.goto 17, 3) := by decide +kernel
theorem dX1_work_101 : decode cX1_work 101 = .ok (.aload_n 0, 1) := by decide +kernel
theorem dX1_work_102 : decode cX1_work 102 = .ok (.getfield 16, 3) := by decide +kernel
theorem dX1_work_105 : decode cX1_work 105 = .ok (.iload_n 3, 1) := by decide +kernel
theorem dX1_work_106 : decode cX1_work 106 = .ok (.laload, 1) := by decide +kernel
theorem dX1_work_107 : decode cX1_work 107 = .ok (.aload_n 0, 1) := by decide +kernel
theorem dX1_work_108 : decode cX1_work 108 = .ok (.getfield 16, 3) := by decide +kernel
theorem dX1_work_111 : decode cX1_work 111 = .ok (.iload 4, 2) := by decide +kernel
theorem dX1_work_113 : decode cX1_work 113 = .ok (.laload, 1) := by decide +kernel
theorem dX1_work_114 : decode cX1_work 114 = .ok (.lsub, 1) := by decide +kernel
theorem dX1_work_115 : decode cX1_work 115 = .ok (.invokevirtual 53, 3) := by decide +kernel
theorem dX1_work_118 : decode cX1_work 118 = .ok (.ireturn, 1) := by decide +kernel
theorem dX1_side_0 : decode cX1_side 0 = .ok (.iload_n 1, 1) := by decide +kernel
theorem dX1_side_1 : decode cX1_side 1 = .ok (.invokestatic 41, 3) := by decide +kernel
theorem dX1_side_4 : decode cX1_side 4 = .ok (.ifCond .eq 19, 3) := by decide +kernel
theorem dX1_side_7 : decode cX1_side 7 = .ok (.iload_n 2, 1) := by decide +kernel
theorem dX1_side_8 : decode cX1_side 8 = .ok (.invokestatic 41, 3) := by decide +kernel
theorem dX1_side_11 : decode cX1_side 11 = .ok (.ifCond .eq 12, 3) := by decide +kernel
theorem dX1_side_14 : decode cX1_side 14 = .ok (.iload_n 3, 1) := by decide +kernel
theorem dX1_side_15 : decode cX1_side 15 = .ok (.ifCond .lt 8, 3) := by decide +kernel
theorem dX1_side_18 : decode cX1_side 18 = .ok (.iload_n 3, 1) := by decide +kernel
theorem dX1_side_19 : decode cX1_side 19 = .ok (.iconst 1, 1) := by decide +kernel
theorem dX1_side_20 : decode cX1_side 20 = .ok (.if_icmp .le 5, 3) := by decide +kernel
theorem dX1_side_23 : decode cX1_side 23 = .ok (.iconst (-1), 1) := by decide +kernel
theorem dX1_side_24 : decode cX1_side 24 = .ok (.ireturn, 1) := by decide +kernel
theorem dX1_side_25 : decode cX1_side 25 = .ok (.iload_n 3, 1) := by decide +kernel
theorem dX1_side_26 : decode cX1_side 26 = .ok (.ifCond .ne 7, 3) := by decide +kernel
theorem dX1_side_29 : decode cX1_side 29 = .ok (.iconst 1, 1) := by decide +kernel
theorem dX1_side_30 : decode cX1_side 30 = .ok (.goto 4, 3) := by decide +kernel
theorem dX1_side_33 : decode cX1_side 33 = .ok (.iconst 0, 1) := by decide +kernel
theorem dX1_side_34 : decode cX1_side 34 = .ok (.istore 4, 2) := by decide +kernel
theorem dX1_side_36 : decode cX1_side 36 = .ok (.aload_n 0, 1) := by decide +kernel
theorem dX1_side_37 : decode cX1_side 37 = .ok (.getfield 9, 3) := by decide +kernel
theorem dX1_side_40 : decode cX1_side 40 = .ok (.iload_n 2, 1) := by decide +kernel
theorem dX1_side_41 : decode cX1_side 41 = .ok (.iaload, 1) := by decide +kernel
theorem dX1_side_42 : decode cX1_side 42 = .ok (.iconst 1, 1) := by decide +kernel
theorem dX1_side_43 : decode cX1_side 43 = .ok (.isub, 1) := by decide +kernel
theorem dX1_side_44 : decode cX1_side 44 = .ok (.istore 5, 2) := by decide +kernel
theorem dX1_side_46 : decode cX1_side 46 = .ok (.iload 5, 2) := by decide +kernel
theorem dX1_side_48 : decode cX1_side 48 = .ok (.ifCond .lt 45, 3) := by decide +kernel
theorem dX1_side_51 : decode cX1_side 51 = .ok (.aload_n 0, 1) := by decide +kernel
theorem dX1_side_52 : decode cX1_side 52 = .ok (.getfield 13, 3) := by decide +kernel
theorem dX1_side_55 : decode cX1_side 55 = .ok (.iload_n 2, 1) := by decide +kernel
theorem dX1_side_56 : decode cX1_side 56 = .ok (.iaload, 1) := by decide +kernel
theorem dX1_side_57 : decode cX1_side 57 = .ok (.iload 5, 2) := by decide +kernel
theorem dX1_side_59 : decode cX1_side 59 = .ok (.invokestatic 57, 3) := by decide +kernel
theorem dX1_side_62 : decode cX1_side 62 = .ok (.iload 4, 2) := by decide +kernel
theorem dX1_side_64 : decode cX1_side 64 = .ok (.if_icmp .ne 23, 3) := by decide +kernel
theorem dX1_side_67 : decode cX1_side 67 = .ok (.aload_n 0, 1) := by decide +kernel
theorem dX1_side_68 : decode cX1_side 68 = .ok (.iload_n 1, 1) := by decide +kernel
theorem dX1_side_69 : decode cX1_side 69 = .ok (.iload 5, 2) := by decide +kernel
theorem dX1_side_71 : decode cX1_side 71 = .ok (.aload_n 0, 1) := by decide +kernel
theorem dX1_side_72 : decode cX1_side 72 = .ok (.getfield 13, 3) := by decide +kernel
theorem dX1_side_75 : decode cX1_side 75 = .ok (.iload_n 2, 1) := by decide +kernel
theorem dX1_side_76 : decode cX1_side 76 = .ok (.iaload, 1) := by decide +kernel
theorem dX1_side_77 : decode cX1_side 77 = .ok (.iload 5, 2) := by decide +kernel
theorem dX1_side_79 : decode cX1_side 79 = .ok (.invokestatic 75, 3) := by decide +kernel
theorem dX1_side_82 : decode cX1_side 82 = .ok (.iand, 1) := by decide +kernel
theorem dX1_side_83 : decode cX1_side 83 = .ok (.invokevirtual 45, 3) := by decide +kernel
theorem dX1_side_86 : decode cX1_side 86 = .ok (.ireturn, 1) := by decide +kernel
theorem dX1_side_87 : decode cX1_side 87 = .ok (.iinc 5 (-1), 3) := by decide +kernel
theorem dX1_side_90 : decode cX1_side 90 = .ok (.goto (-44), 3) := by decide +kernel
theorem dX1_side_93 : decode cX1_side 93 = .ok (.bipush (-2), 2) := by decide +kernel
theorem dX1_side_95 : decode cX1_side 95 = .ok (.ireturn, 1) := by decide +kernel
theorem dX1_cut_0 : decode cX1_cut 0 = .ok (.iload_n 1, 1) := by decide +kernel
theorem dX1_cut_1 : decode cX1_cut 1 = .ok (.invokestatic 41, 3) := by decide +kernel
theorem dX1_cut_4 : decode cX1_cut 4 = .ok (.ifCond .eq 17, 3) := by decide +kernel
theorem dX1_cut_7 : decode cX1_cut 7 = .ok (.iload_n 2, 1) := by decide +kernel
theorem dX1_cut_8 : decode cX1_cut 8 = .ok (.invokestatic 79, 3) := by decide +kernel
theorem dX1_cut_11 : decode cX1_cut 11 = .ok (.ifCond .eq 10, 3) := by decide +kernel
theorem dX1_cut_14 : decode cX1_cut 14 = .ok (.iload_n 3, 1) := by decide +kernel
theorem dX1_cut_15 : decode cX1_cut 15 = .ok (.invokestatic 79, 3) := by decide +kernel
theorem dX1_cut_18 : decode cX1_cut 18 = .ok (.ifCond .ne 5, 3) := by decide +kernel
theorem dX1_cut_21 : decode cX1_cut 21 = .ok (.iconst (-1), 1) := by decide +kernel
theorem dX1_cut_22 : decode cX1_cut 22 = .ok (.ireturn, 1) := by decide +kernel
theorem dX1_cut_23 : decode cX1_cut 23 = .ok (.aload_n 0, 1) := by decide +kernel
theorem dX1_cut_24 : decode cX1_cut 24 = .ok (.iload_n 2, 1) := by decide +kernel
theorem dX1_cut_25 : decode cX1_cut 25 = .ok (.iload_n 3, 1) := by decide +kernel
theorem dX1_cut_26 : decode cX1_cut 26 = .ok (.invokevirtual 82, 3) := by decide +kernel
theorem dX1_cut_29 : decode cX1_cut 29 = .ok (.ifCond .eq 6, 3) := by decide +kernel
theorem dX1_cut_32 : decode cX1_cut 32 = .ok (.bipush (-2), 2) := by decide +kernel
theorem dX1_cut_34 : decode cX1_cut 34 = .ok (.ireturn, 1) := by decide +kernel
theorem dX1_cut_35 : decode cX1_cut 35 = .ok (.aload_n 0, 1) := by decide +kernel
theorem dX1_cut_36 : decode cX1_cut 36 = .ok (.iload_n 1, 1) := by decide +kernel
theorem dX1_cut_37 : decode cX1_cut 37 = .ok (.aload_n 0, 1) := by decide +kernel
theorem dX1_cut_38 : decode cX1_cut 38 = .ok (.iload_n 2, 1) := by decide +kernel
theorem dX1_cut_39 : decode cX1_cut 39 = .ok (.invokevirtual 85, 3) := by decide +kernel
theorem dX1_cut_42 : decode cX1_cut 42 = .ok (.aload_n 0, 1) := by decide +kernel
theorem dX1_cut_43 : decode cX1_cut 43 = .ok (.iload_n 3, 1) := by decide +kernel
theorem dX1_cut_44 : decode cX1_cut 44 = .ok (.invokevirtual 89, 3) := by decide +kernel
theorem dX1_cut_47 : decode cX1_cut 47 = .ok (.invokevirtual 92, 3) := by decide +kernel
theorem dX1_cut_50 : decode cX1_cut 50 = .ok (.ireturn, 1) := by decide +kernel
theorem dX1_pair_0 : decode cX1_pair 0 = .ok (.iload_n 1, 1) := by decide +kernel
theorem dX1_pair_1 : decode cX1_pair 1 = .ok (.ifCond .lt 8, 3) := by decide +kernel
theorem dX1_pair_4 : decode cX1_pair 4 = .ok (.iload_n 1, 1) := by decide +kernel
theorem dX1_pair_5 : decode cX1_pair 5 = .ok (.iconst 1, 1) := by decide +kernel
theorem dX1_pair_6 : decode cX1_pair 6 = .ok (.if_icmp .le 5, 3) := by decide +kernel
theorem dX1_pair_9 : decode cX1_pair 9 = .ok (.iconst (-1), 1) := by decide +kernel
theorem dX1_pair_10 : decode cX1_pair 10 = .ok (.ireturn, 1) := by decide +kernel
theorem dX1_pair_11 : decode cX1_pair 11 = .ok (.iload_n 1, 1) := by decide +kernel
theorem dX1_pair_12 : decode cX1_pair 12 = .ok (.ifCond .ne 10, 3) := by decide +kernel
theorem dX1_pair_15 : decode cX1_pair 15 = .ok (.aload_n 0, 1) := by decide +kernel
theorem dX1_pair_16 : decode cX1_pair 16 = .ok (.getfield 20, 3) := by decide +kernel
theorem dX1_pair_19 : decode cX1_pair 19 = .ok (.goto 7, 3) := by decide +kernel
theorem dX1_pair_22 : decode cX1_pair 22 = .ok (.aload_n 0, 1) := by decide +kernel
theorem dX1_pair_23 : decode cX1_pair 23 = .ok (.getfield 24, 3) := by decide +kernel
theorem dX1_pair_26 : decode cX1_pair 26 = .ok (.ireturn, 1) := by decide +kernel
theorem dX1_born_0 : decode cX1_born 0 = .ok (.iload_n 1, 1) := by decide +kernel
theorem dX1_born_1 : decode cX1_born 1 = .ok (.invokestatic 41, 3) := by decide +kernel
theorem dX1_born_4 : decode cX1_born 4 = .ok (.ifCond .eq 21, 3) := by decide +kernel
theorem dX1_born_7 : decode cX1_born 7 = .ok (.iload_n 2, 1) := by decide +kernel
theorem dX1_born_8 : decode cX1_born 8 = .ok (.invokestatic 96, 3) := by decide +kernel
theorem dX1_born_11 : decode cX1_born 11 = .ok (.ifCond .eq 14, 3) := by decide +kernel
theorem dX1_born_14 : decode cX1_born 14 = .ok (.iload_n 3, 1) := by decide +kernel
theorem dX1_born_15 : decode cX1_born 15 = .ok (.ifCond .lt 10, 3) := by decide +kernel
theorem dX1_born_18 : decode cX1_born 18 = .ok (.iload_n 3, 1) := by decide +kernel
theorem dX1_born_19 : decode cX1_born 19 = .ok (.iconst 1, 1) := by decide +kernel
theorem dX1_born_20 : decode cX1_born 20 = .ok (.iload_n 2, 1) := by decide +kernel
theorem dX1_born_21 : decode cX1_born 21 = .ok (.ishl, 1) := by decide +kernel
theorem dX1_born_22 : decode cX1_born 22 = .ok (.if_icmp .lt 5, 3) := by decide +kernel
theorem dX1_born_25 : decode cX1_born 25 = .ok (.iconst (-1), 1) := by decide +kernel
theorem dX1_born_26 : decode cX1_born 26 = .ok (.ireturn, 1) := by decide +kernel
theorem dX1_born_27 : decode cX1_born 27 = .ok (.aload_n 0, 1) := by decide +kernel
theorem dX1_born_28 : decode cX1_born 28 = .ok (.iload_n 1, 1) := by decide +kernel
theorem dX1_born_29 : decode cX1_born 29 = .ok (.iload_n 2, 1) := by decide +kernel
theorem dX1_born_30 : decode cX1_born 30 = .ok (.iload_n 3, 1) := by decide +kernel
theorem dX1_born_31 : decode cX1_born 31 = .ok (.iload_n 2, 1) := by decide +kernel
theorem dX1_born_32 : decode cX1_born 32 = .ok (.invokestatic 99, 3) := by decide +kernel
theorem dX1_born_35 : decode cX1_born 35 = .ok (.invokevirtual 45, 3) := by decide +kernel
theorem dX1_born_38 : decode cX1_born 38 = .ok (.ireturn, 1) := by decide +kernel
theorem dX1_between_0 : decode cX1_between 0 = .ok (.iload_n 1, 1) := by decide +kernel
theorem dX1_between_1 : decode cX1_between 1 = .ok (.invokestatic 41, 3) := by decide +kernel
theorem dX1_between_4 : decode cX1_between 4 = .ok (.ifCond .eq 17, 3) := by decide +kernel
theorem dX1_between_7 : decode cX1_between 7 = .ok (.iload_n 2, 1) := by decide +kernel
theorem dX1_between_8 : decode cX1_between 8 = .ok (.invokestatic 41, 3) := by decide +kernel
theorem dX1_between_11 : decode cX1_between 11 = .ok (.ifCond .eq 10, 3) := by decide +kernel
theorem dX1_between_14 : decode cX1_between 14 = .ok (.iload_n 3, 1) := by decide +kernel
theorem dX1_between_15 : decode cX1_between 15 = .ok (.invokestatic 96, 3) := by decide +kernel
theorem dX1_between_18 : decode cX1_between 18 = .ok (.ifCond .ne 5, 3) := by decide +kernel
theorem dX1_between_21 : decode cX1_between 21 = .ok (.iconst (-1), 1) := by decide +kernel
theorem dX1_between_22 : decode cX1_between 22 = .ok (.ireturn, 1) := by decide +kernel
theorem dX1_between_23 : decode cX1_between 23 = .ok (.aload_n 0, 1) := by decide +kernel
theorem dX1_between_24 : decode cX1_between 24 = .ok (.getfield 16, 3) := by decide +kernel
theorem dX1_between_27 : decode cX1_between 27 = .ok (.iload_n 1, 1) := by decide +kernel
theorem dX1_between_28 : decode cX1_between 28 = .ok (.laload, 1) := by decide +kernel
theorem dX1_between_29 : decode cX1_between 29 = .ok (.aload_n 0, 1) := by decide +kernel
theorem dX1_between_30 : decode cX1_between 30 = .ok (.getfield 16, 3) := by decide +kernel
theorem dX1_between_33 : decode cX1_between 33 = .ok (.iload_n 2, 1) := by decide +kernel
theorem dX1_between_34 : decode cX1_between 34 = .ok (.laload, 1) := by decide +kernel
theorem dX1_between_35 : decode cX1_between 35 = .ok (.lcmp, 1) := by decide +kernel
theorem dX1_between_36 : decode cX1_between 36 = .ok (.ifCond .lt 6, 3) := by decide +kernel
theorem dX1_between_39 : decode cX1_between 39 = .ok (.bipush (-2), 2) := by decide +kernel
theorem dX1_between_41 : decode cX1_between 41 = .ok (.ireturn, 1) := by decide +kernel
theorem dX1_between_42 : decode cX1_between 42 = .ok (.aload_n 0, 1) := by decide +kernel
theorem dX1_between_43 : decode cX1_between 43 = .ok (.getfield 9, 3) := by decide +kernel
theorem dX1_between_46 : decode cX1_between 46 = .ok (.iload_n 1, 1) := by decide +kernel
theorem dX1_between_47 : decode cX1_between 47 = .ok (.iaload, 1) := by decide +kernel
theorem dX1_between_48 : decode cX1_between 48 = .ok (.iload_n 3, 1) := by decide +kernel
theorem dX1_between_49 : decode cX1_between 49 = .ok (.if_icmp .gt 7, 3) := by decide +kernel
theorem dX1_between_52 : decode cX1_between 52 = .ok (.iconst 1, 1) := by decide +kernel
theorem dX1_between_53 : decode cX1_between 53 = .ok (.goto 4, 3) := by decide +kernel
theorem dX1_between_56 : decode cX1_between 56 = .ok (.iconst 0, 1) := by decide +kernel
theorem dX1_between_57 : decode cX1_between 57 = .ok (.istore 4, 2) := by decide +kernel
theorem dX1_between_59 : decode cX1_between 59 = .ok (.aload_n 0, 1) := by decide +kernel
theorem dX1_between_60 : decode cX1_between 60 = .ok (.iload_n 2, 1) := by decide +kernel
theorem dX1_between_61 : decode cX1_between 61 = .ok (.iload_n 3, 1) := by decide +kernel
theorem dX1_between_62 : decode cX1_between 62 = .ok (.invokevirtual 103, 3) := by decide +kernel
theorem dX1_between_65 : decode cX1_between 65 = .ok (.aload_n 0, 1) := by decide +kernel
theorem dX1_between_66 : decode cX1_between 66 = .ok (.iload_n 1, 1) := by decide +kernel
theorem dX1_between_67 : decode cX1_between 67 = .ok (.iload_n 3, 1) := by decide +kernel
theorem dX1_between_68 : decode cX1_between 68 = .ok (.invokevirtual 103, 3) := by decide +kernel
theorem dX1_between_71 : decode cX1_between 71 = .ok (.isub, 1) := by decide +kernel
theorem dX1_between_72 : decode cX1_between 72 = .ok (.iload 4, 2) := by decide +kernel
theorem dX1_between_74 : decode cX1_between 74 = .ok (.isub, 1) := by decide +kernel
theorem dX1_between_75 : decode cX1_between 75 = .ok (.ireturn, 1) := by decide +kernel
theorem dX1_wins_0 : decode cX1_wins 0 = .ok (.iload_n 1, 1) := by decide +kernel
theorem dX1_wins_1 : decode cX1_wins 1 = .ok (.invokestatic 79, 3) := by decide +kernel
theorem dX1_wins_4 : decode cX1_wins 4 = .ok (.ifCond .eq 12, 3) := by decide +kernel
theorem dX1_wins_7 : decode cX1_wins 7 = .ok (.iload_n 2, 1) := by decide +kernel
theorem dX1_wins_8 : decode cX1_wins 8 = .ok (.ifCond .lt 8, 3) := by decide +kernel
theorem dX1_wins_11 : decode cX1_wins 11 = .ok (.iload_n 2, 1) := by decide +kernel
theorem dX1_wins_12 : decode cX1_wins 12 = .ok (.iconst 1, 1) := by decide +kernel
theorem dX1_wins_13 : decode cX1_wins 13 = .ok (.if_icmp .le 5, 3) := by decide +kernel
theorem dX1_wins_16 : decode cX1_wins 16 = .ok (.iconst (-1), 1) := by decide +kernel
theorem dX1_wins_17 : decode cX1_wins 17 = .ok (.ireturn, 1) := by decide +kernel
theorem dX1_wins_18 : decode cX1_wins 18 = .ok (.iconst 0, 1) := by decide +kernel
theorem dX1_wins_19 : decode cX1_wins 19 = .ok (.istore_n 3, 1) := by decide +kernel
theorem dX1_wins_20 : decode cX1_wins 20 = .ok (.lconst 0, 1) := by decide +kernel
theorem dX1_wins_21 : decode cX1_wins 21 = .ok (.lstore 4, 2) := by decide +kernel
theorem dX1_wins_23 : decode cX1_wins 23 = .ok (.iconst 0, 1) := by decide +kernel
theorem dX1_wins_24 : decode cX1_wins 24 = .ok (.istore 6, 2) := by decide +kernel
theorem dX1_wins_26 : decode cX1_wins 26 = .ok (.iload 6, 2) := by decide +kernel
theorem dX1_wins_28 : decode cX1_wins 28 = .ok (.bipush 12, 2) := by decide +kernel
theorem dX1_wins_30 : decode cX1_wins 30 = .ok (.if_icmp .ge 40, 3) := by decide +kernel
theorem dX1_wins_33 : decode cX1_wins 33 = .ok (.iload_n 1, 1) := by decide +kernel
theorem dX1_wins_34 : decode cX1_wins 34 = .ok (.iload 6, 2) := by decide +kernel
theorem dX1_wins_36 : decode cX1_wins 36 = .ok (.invokestatic 106, 3) := by decide +kernel
theorem dX1_wins_39 : decode cX1_wins 39 = .ok (.ifCond .eq 25, 3) := by decide +kernel
theorem dX1_wins_42 : decode cX1_wins 42 = .ok (.iload_n 3, 1) := by decide +kernel
theorem dX1_wins_43 : decode cX1_wins 43 = .ok (.aload_n 0, 1) := by decide +kernel
theorem dX1_wins_44 : decode cX1_wins 44 = .ok (.getfield 9, 3) := by decide +kernel
theorem dX1_wins_47 : decode cX1_wins 47 = .ok (.iload 6, 2) := by decide +kernel
theorem dX1_wins_49 : decode cX1_wins 49 = .ok (.iaload, 1) := by decide +kernel
theorem dX1_wins_50 : decode cX1_wins 50 = .ok (.iadd, 1) := by decide +kernel
theorem dX1_wins_51 : decode cX1_wins 51 = .ok (.istore_n 3, 1) := by decide +kernel
theorem dX1_wins_52 : decode cX1_wins 52 = .ok (.lload 4, 2) := by decide +kernel
theorem dX1_wins_54 : decode cX1_wins 54 = .ok (.aload_n 0, 1) := by decide +kernel
theorem dX1_wins_55 : decode cX1_wins 55 = .ok (.getfield 16, 3) := by decide +kernel
theorem dX1_wins_58 : decode cX1_wins 58 = .ok (.iload 6, 2) := by decide +kernel
theorem dX1_wins_60 : decode cX1_wins 60 = .ok (.laload, 1) := by decide +kernel
theorem dX1_wins_61 : decode cX1_wins 61 = .ok (.ladd, 1) := by decide +kernel
theorem dX1_wins_62 : decode cX1_wins 62 = .ok (.lstore 4, 2) := by decide +kernel
theorem dX1_wins_64 : decode cX1_wins 64 = .ok (.iinc 6 1, 3) := by decide +kernel
theorem dX1_wins_67 : decode cX1_wins 67 = .ok (.goto (-41), 3) := by decide +kernel
theorem dX1_wins_70 : decode cX1_wins 70 = .ok (.iload_n 1, 1) := by decide +kernel
theorem dX1_wins_71 : decode cX1_wins 71 = .ok (.invokestatic 109, 3) := by decide +kernel
theorem dX1_wins_74 : decode cX1_wins 74 = .ok (.iconst 4, 1) := by decide +kernel
theorem dX1_wins_75 : decode cX1_wins 75 = .ok (.if_icmp .gt 9, 3) := by decide +kernel
theorem dX1_wins_78 : decode cX1_wins 78 = .ok (.iload_n 3, 1) := by decide +kernel
theorem dX1_wins_79 : decode cX1_wins 79 = .ok (.bipush 14, 2) := by decide +kernel
theorem dX1_wins_81 : decode cX1_wins 81 = .ok (.if_icmp .le 6, 3) := by decide +kernel
theorem dX1_wins_84 : decode cX1_wins 84 = .ok (.bipush (-2), 2) := by decide +kernel
theorem dX1_wins_86 : decode cX1_wins 86 = .ok (.ireturn, 1) := by decide +kernel
theorem dX1_wins_87 : decode cX1_wins 87 = .ok (.iload_n 2, 1) := by decide +kernel
theorem dX1_wins_88 : decode cX1_wins 88 = .ok (.ifCond .ne 18, 3) := by decide +kernel
theorem dX1_wins_91 : decode cX1_wins 91 = .ok (.lload 4, 2) := by decide +kernel
theorem dX1_wins_93 : decode cX1_wins 93 = .ok (.lconst 0, 1) := by decide +kernel
theorem dX1_wins_94 : decode cX1_wins 94 = .ok (.lcmp, 1) := by decide +kernel
theorem dX1_wins_95 : decode cX1_wins 95 = .ok (.ifCond .le 7, 3) := by decide +kernel
theorem dX1_wins_98 : decode cX1_wins 98 = .ok (.iconst 1, 1) := by decide +kernel
theorem dX1_wins_99 : decode cX1_wins 99 = .ok (.goto 19, 3) := by decide +kernel
theorem dX1_wins_102 : decode cX1_wins 102 = .ok (.iconst 0, 1) := by decide +kernel
theorem dX1_wins_103 : decode cX1_wins 103 = .ok (.goto 15, 3) := by decide +kernel
theorem dX1_wins_106 : decode cX1_wins 106 = .ok (.lload 4, 2) := by decide +kernel
theorem dX1_wins_108 : decode cX1_wins 108 = .ok (.lconst 0, 1) := by decide +kernel
theorem dX1_wins_109 : decode cX1_wins 109 = .ok (.lcmp, 1) := by decide +kernel
theorem dX1_wins_110 : decode cX1_wins 110 = .ok (.ifCond .ge 7, 3) := by decide +kernel
theorem dX1_wins_113 : decode cX1_wins 113 = .ok (.iconst 1, 1) := by decide +kernel
theorem dX1_wins_114 : decode cX1_wins 114 = .ok (.goto 4, 3) := by decide +kernel
theorem dX1_wins_117 : decode cX1_wins 117 = .ok (.iconst 0, 1) := by decide +kernel
theorem dX1_wins_118 : decode cX1_wins 118 = .ok (.istore 6, 2) := by decide +kernel
theorem dX1_wins_120 : decode cX1_wins 120 = .ok (.iload 6, 2) := by decide +kernel
theorem dX1_wins_122 : decode cX1_wins 122 = .ok (.ifCond .eq 7, 3) := by decide +kernel
theorem dX1_wins_125 : decode cX1_wins 125 = .ok (.iconst 1, 1) := by decide +kernel
theorem dX1_wins_126 : decode cX1_wins 126 = .ok (.goto 4, 3) := by decide +kernel
theorem dX1_wins_129 : decode cX1_wins 129 = .ok (.iconst 0, 1) := by decide +kernel
theorem dX1_wins_130 : decode cX1_wins 130 = .ok (.ireturn, 1) := by decide +kernel
theorem dX1_term_0 : decode cX1_term 0 = .ok (.iload_n 1, 1) := by decide +kernel
theorem dX1_term_1 : decode cX1_term 1 = .ok (.invokestatic 114, 3) := by decide +kernel
theorem dX1_term_4 : decode cX1_term 4 = .ok (.ifCond .eq 19, 3) := by decide +kernel
theorem dX1_term_7 : decode cX1_term 7 = .ok (.iload_n 2, 1) := by decide +kernel
theorem dX1_term_8 : decode cX1_term 8 = .ok (.invokestatic 117, 3) := by decide +kernel
theorem dX1_term_11 : decode cX1_term 11 = .ok (.ifCond .eq 12, 3) := by decide +kernel
theorem dX1_term_14 : decode cX1_term 14 = .ok (.iload_n 3, 1) := by decide +kernel
theorem dX1_term_15 : decode cX1_term 15 = .ok (.iload 4, 2) := by decide +kernel
theorem dX1_term_17 : decode cX1_term 17 = .ok (.invokestatic 49, 3) := by decide +kernel
theorem dX1_term_20 : decode cX1_term 20 = .ok (.ifCond .ne 5, 3) := by decide +kernel
theorem dX1_term_23 : decode cX1_term 23 = .ok (.iconst (-1), 1) := by decide +kernel
theorem dX1_term_24 : decode cX1_term 24 = .ok (.ireturn, 1) := by decide +kernel
theorem dX1_term_25 : decode cX1_term 25 = .ok (.aload_n 0, 1) := by decide +kernel
theorem dX1_term_26 : decode cX1_term 26 = .ok (.getfield 29, 3) := by decide +kernel
theorem dX1_term_29 : decode cX1_term 29 = .ok (.iload_n 1, 1) := by decide +kernel
theorem dX1_term_30 : decode cX1_term 30 = .ok (.aaload, 1) := by decide +kernel
theorem dX1_term_31 : decode cX1_term 31 = .ok (.getfield 120, 3) := by decide +kernel
theorem dX1_term_34 : decode cX1_term 34 = .ok (.iload_n 2, 1) := by decide +kernel
theorem dX1_term_35 : decode cX1_term 35 = .ok (.bipush 6, 2) := by decide +kernel
theorem dX1_term_37 : decode cX1_term 37 = .ok (.iadd, 1) := by decide +kernel
theorem dX1_term_38 : decode cX1_term 38 = .ok (.iload_n 3, 1) := by decide +kernel
theorem dX1_term_39 : decode cX1_term 39 = .ok (.i2l, 1) := by decide +kernel
theorem dX1_term_40 : decode cX1_term 40 = .ok (.iload 4, 2) := by decide +kernel
theorem dX1_term_42 : decode cX1_term 42 = .ok (.invokestatic 123, 3) := by decide +kernel
theorem dX1_term_45 : decode cX1_term 45 = .ok (.lastore, 1) := by decide +kernel
theorem dX1_term_46 : decode cX1_term 46 = .ok (.aload_n 0, 1) := by decide +kernel
theorem dX1_term_47 : decode cX1_term 47 = .ok (.getfield 29, 3) := by decide +kernel
theorem dX1_term_50 : decode cX1_term 50 = .ok (.iload_n 1, 1) := by decide +kernel
theorem dX1_term_51 : decode cX1_term 51 = .ok (.aaload, 1) := by decide +kernel
theorem dX1_term_52 : decode cX1_term 52 = .ok (.invokevirtual 127, 3) := by decide +kernel
theorem dX1_term_55 : decode cX1_term 55 = .ok (.ireturn, 1) := by decide +kernel
theorem dX1_told_0 : decode cX1_told 0 = .ok (.iload_n 1, 1) := by decide +kernel
theorem dX1_told_1 : decode cX1_told 1 = .ok (.invokestatic 114, 3) := by decide +kernel
theorem dX1_told_4 : decode cX1_told 4 = .ok (.ifCond .eq 16, 3) := by decide +kernel
theorem dX1_told_7 : decode cX1_told 7 = .ok (.iload_n 2, 1) := by decide +kernel
theorem dX1_told_8 : decode cX1_told 8 = .ok (.ifCond .lt 12, 3) := by decide +kernel
theorem dX1_told_11 : decode cX1_told 11 = .ok (.iload_n 3, 1) := by decide +kernel
theorem dX1_told_12 : decode cX1_told 12 = .ok (.ifCond .lt 8, 3) := by decide +kernel
theorem dX1_told_15 : decode cX1_told 15 = .ok (.iload_n 3, 1) := by decide +kernel
theorem dX1_told_16 : decode cX1_told 16 = .ok (.iconst 2, 1) := by decide +kernel
theorem dX1_told_17 : decode cX1_told 17 = .ok (.if_icmp .le 6, 3) := by decide +kernel
theorem dX1_told_20 : decode cX1_told 20 = .ok (.ldc 131, 2) := by decide +kernel
theorem dX1_told_22 : decode cX1_told 22 = .ok (.ireturn, 1) := by decide +kernel
theorem dX1_told_23 : decode cX1_told 23 = .ok (.aload_n 0, 1) := by decide +kernel
theorem dX1_told_24 : decode cX1_told 24 = .ok (.getfield 29, 3) := by decide +kernel
theorem dX1_told_27 : decode cX1_told 27 = .ok (.iload_n 1, 1) := by decide +kernel
theorem dX1_told_28 : decode cX1_told 28 = .ok (.aaload, 1) := by decide +kernel
theorem dX1_told_29 : decode cX1_told 29 = .ok (.iload_n 2, 1) := by decide +kernel
theorem dX1_told_30 : decode cX1_told 30 = .ok (.invokevirtual 132, 3) := by decide +kernel
theorem dX1_told_33 : decode cX1_told 33 = .ok (.istore 4, 2) := by decide +kernel
theorem dX1_told_35 : decode cX1_told 35 = .ok (.iload 4, 2) := by decide +kernel
theorem dX1_told_37 : decode cX1_told 37 = .ok (.ifCond .ge 6, 3) := by decide +kernel
theorem dX1_told_40 : decode cX1_told 40 = .ok (.ldc 135, 2) := by decide +kernel
theorem dX1_told_42 : decode cX1_told 42 = .ok (.ireturn, 1) := by decide +kernel
theorem dX1_told_43 : decode cX1_told 43 = .ok (.iload_n 3, 1) := by decide +kernel
theorem dX1_told_44 : decode cX1_told 44 = .ok (.ifCond .ne 9, 3) := by decide +kernel
theorem dX1_told_47 : decode cX1_told 47 = .ok (.iload 4, 2) := by decide +kernel
theorem dX1_told_49 : decode cX1_told 49 = .ok (.bipush 6, 2) := by decide +kernel
theorem dX1_told_51 : decode cX1_told 51 = .ok (.isub, 1) := by decide +kernel
theorem dX1_told_52 : decode cX1_told 52 = .ok (.ireturn, 1) := by decide +kernel
theorem dX1_told_53 : decode cX1_told 53 = .ok (.aload_n 0, 1) := by decide +kernel
theorem dX1_told_54 : decode cX1_told 54 = .ok (.getfield 29, 3) := by decide +kernel
theorem dX1_told_57 : decode cX1_told 57 = .ok (.iload_n 1, 1) := by decide +kernel
theorem dX1_told_58 : decode cX1_told 58 = .ok (.aaload, 1) := by decide +kernel
theorem dX1_told_59 : decode cX1_told 59 = .ok (.getfield 120, 3) := by decide +kernel
theorem dX1_told_62 : decode cX1_told 62 = .ok (.iload 4, 2) := by decide +kernel
theorem dX1_told_64 : decode cX1_told 64 = .ok (.laload, 1) := by decide +kernel
theorem dX1_told_65 : decode cX1_told 65 = .ok (.lstore 5, 2) := by decide +kernel
theorem dX1_told_67 : decode cX1_told 67 = .ok (.iload_n 3, 1) := by decide +kernel
theorem dX1_told_68 : decode cX1_told 68 = .ok (.iconst 1, 1) := by decide +kernel
theorem dX1_told_69 : decode cX1_told 69 = .ok (.if_icmp .ne 13, 3) := by decide +kernel
theorem dX1_told_72 : decode cX1_told 72 = .ok (.lload 5, 2) := by decide +kernel
theorem dX1_told_74 : decode cX1_told 74 = .ok (.bipush 20, 2) := by decide +kernel
theorem dX1_told_76 : decode cX1_told 76 = .ok (.invokestatic 61, 3) := by decide +kernel
theorem dX1_told_79 : decode cX1_told 79 = .ok (.goto 10, 3) := by decide +kernel
theorem dX1_told_82 : decode cX1_told 82 = .ok (.lload 5, 2) := by decide +kernel
theorem dX1_told_84 : decode cX1_told 84 = .ok (.bipush 20, 2) := by decide +kernel
theorem dX1_told_86 : decode cX1_told 86 = .ok (.invokestatic 65, 3) := by decide +kernel
theorem dX1_told_89 : decode cX1_told 89 = .ok (.ireturn, 1) := by decide +kernel
theorem dX1_sum_0 : decode cX1_sum 0 = .ok (.iload_n 1, 1) := by decide +kernel
theorem dX1_sum_1 : decode cX1_sum 1 = .ok (.invokestatic 114, 3) := by decide +kernel
theorem dX1_sum_4 : decode cX1_sum 4 = .ok (.ifCond .eq 27, 3) := by decide +kernel
theorem dX1_sum_7 : decode cX1_sum 7 = .ok (.iload_n 2, 1) := by decide +kernel
theorem dX1_sum_8 : decode cX1_sum 8 = .ok (.ifCond .lt 23, 3) := by decide +kernel
theorem dX1_sum_11 : decode cX1_sum 11 = .ok (.iload_n 2, 1) := by decide +kernel
theorem dX1_sum_12 : decode cX1_sum 12 = .ok (.iconst 2, 1) := by decide +kernel
theorem dX1_sum_13 : decode cX1_sum 13 = .ok (.if_icmp .gt 18, 3) := by decide +kernel
theorem dX1_sum_16 : decode cX1_sum 16 = .ok (.iload_n 3, 1) := by decide +kernel
theorem dX1_sum_17 : decode cX1_sum 17 = .ok (.invokestatic 114, 3) := by decide +kernel
theorem dX1_sum_20 : decode cX1_sum 20 = .ok (.ifCond .eq 11, 3) := by decide +kernel
theorem dX1_sum_23 : decode cX1_sum 23 = .ok (.iload 4, 2) := by decide +kernel
theorem dX1_sum_25 : decode cX1_sum 25 = .ok (.invokestatic 114, 3) := by decide +kernel
theorem dX1_sum_28 : decode cX1_sum 28 = .ok (.ifCond .ne 5, 3) := by decide +kernel
theorem dX1_sum_31 : decode cX1_sum 31 = .ok (.iconst (-1), 1) := by decide +kernel
theorem dX1_sum_32 : decode cX1_sum 32 = .ok (.ireturn, 1) := by decide +kernel
theorem dX1_sum_33 : decode cX1_sum 33 = .ok (.iload_n 2, 1) := by decide +kernel
theorem dX1_sum_34 : decode cX1_sum 34 = .ok (.iconst 2, 1) := by decide +kernel
theorem dX1_sum_35 : decode cX1_sum 35 = .ok (.if_icmp .ne 26, 3) := by decide +kernel
theorem dX1_sum_38 : decode cX1_sum 38 = .ok (.aload_n 0, 1) := by decide +kernel
theorem dX1_sum_39 : decode cX1_sum 39 = .ok (.getfield 34, 3) := by decide +kernel
theorem dX1_sum_42 : decode cX1_sum 42 = .ok (.aload_n 0, 1) := by decide +kernel
theorem dX1_sum_43 : decode cX1_sum 43 = .ok (.getfield 29, 3) := by decide +kernel
theorem dX1_sum_46 : decode cX1_sum 46 = .ok (.iload_n 3, 1) := by decide +kernel
theorem dX1_sum_47 : decode cX1_sum 47 = .ok (.aaload, 1) := by decide +kernel
theorem dX1_sum_48 : decode cX1_sum 48 = .ok (.aload_n 0, 1) := by decide +kernel
theorem dX1_sum_49 : decode cX1_sum 49 = .ok (.getfield 29, 3) := by decide +kernel
theorem dX1_sum_52 : decode cX1_sum 52 = .ok (.iload 4, 2) := by decide +kernel
theorem dX1_sum_54 : decode cX1_sum 54 = .ok (.aaload, 1) := by decide +kernel
theorem dX1_sum_55 : decode cX1_sum 55 = .ok (.invokevirtual 136, 3) := by decide +kernel
theorem dX1_sum_58 : decode cX1_sum 58 = .ok (.goto 33, 3) := by decide +kernel
theorem dX1_sum_61 : decode cX1_sum 61 = .ok (.aload_n 0, 1) := by decide +kernel
theorem dX1_sum_62 : decode cX1_sum 62 = .ok (.getfield 34, 3) := by decide +kernel
theorem dX1_sum_65 : decode cX1_sum 65 = .ok (.aload_n 0, 1) := by decide +kernel
theorem dX1_sum_66 : decode cX1_sum 66 = .ok (.getfield 29, 3) := by decide +kernel
theorem dX1_sum_69 : decode cX1_sum 69 = .ok (.iload_n 3, 1) := by decide +kernel
theorem dX1_sum_70 : decode cX1_sum 70 = .ok (.aaload, 1) := by decide +kernel
theorem dX1_sum_71 : decode cX1_sum 71 = .ok (.aload_n 0, 1) := by decide +kernel
theorem dX1_sum_72 : decode cX1_sum 72 = .ok (.getfield 29, 3) := by decide +kernel
theorem dX1_sum_75 : decode cX1_sum 75 = .ok (.iload 4, 2) := by decide +kernel
theorem dX1_sum_77 : decode cX1_sum 77 = .ok (.aaload, 1) := by decide +kernel
theorem dX1_sum_78 : decode cX1_sum 78 = .ok (.iload_n 2, 1) := by decide +kernel
theorem dX1_sum_79 : decode cX1_sum 79 = .ok (.iconst 1, 1) := by decide +kernel
theorem dX1_sum_80 : decode cX1_sum 80 = .ok (.if_icmp .ne 7, 3) := by decide +kernel
theorem dX1_sum_83 : decode cX1_sum 83 = .ok (.iconst 1, 1) := by decide +kernel
theorem dX1_sum_84 : decode cX1_sum 84 = .ok (.goto 4, 3) := by decide +kernel
theorem dX1_sum_87 : decode cX1_sum 87 = .ok (.iconst 0, 1) := by decide +kernel
theorem dX1_sum_88 : decode cX1_sum 88 = .ok (.invokevirtual 140, 3) := by decide +kernel
theorem dX1_sum_91 : decode cX1_sum 91 = .ok (.istore 5, 2) := by decide +kernel
theorem dX1_sum_93 : decode cX1_sum 93 = .ok (.iload 5, 2) := by decide +kernel
theorem dX1_sum_95 : decode cX1_sum 95 = .ok (.ifCond .ne 6, 3) := by decide +kernel
theorem dX1_sum_98 : decode cX1_sum 98 = .ok (.bipush (-5), 2) := by decide +kernel
theorem dX1_sum_100 : decode cX1_sum 100 = .ok (.ireturn, 1) := by decide +kernel
theorem dX1_sum_101 : decode cX1_sum 101 = .ok (.aload_n 0, 1) := by decide +kernel
theorem dX1_sum_102 : decode cX1_sum 102 = .ok (.getfield 29, 3) := by decide +kernel
theorem dX1_sum_105 : decode cX1_sum 105 = .ok (.iload_n 1, 1) := by decide +kernel
theorem dX1_sum_106 : decode cX1_sum 106 = .ok (.aaload, 1) := by decide +kernel
theorem dX1_sum_107 : decode cX1_sum 107 = .ok (.aload_n 0, 1) := by decide +kernel
theorem dX1_sum_108 : decode cX1_sum 108 = .ok (.getfield 34, 3) := by decide +kernel
theorem dX1_sum_111 : decode cX1_sum 111 = .ok (.invokevirtual 144, 3) := by decide +kernel
theorem dX1_sum_114 : decode cX1_sum 114 = .ok (.aload_n 0, 1) := by decide +kernel
theorem dX1_sum_115 : decode cX1_sum 115 = .ok (.getfield 29, 3) := by decide +kernel
theorem dX1_sum_118 : decode cX1_sum 118 = .ok (.iload_n 1, 1) := by decide +kernel
theorem dX1_sum_119 : decode cX1_sum 119 = .ok (.aaload, 1) := by decide +kernel
theorem dX1_sum_120 : decode cX1_sum 120 = .ok (.invokevirtual 127, 3) := by decide +kernel
theorem dX1_sum_123 : decode cX1_sum 123 = .ok (.ireturn, 1) := by decide +kernel
theorem dX1_divide_0 : decode cX1_divide 0 = .ok (.iload_n 1, 1) := by decide +kernel
theorem dX1_divide_1 : decode cX1_divide 1 = .ok (.invokestatic 114, 3) := by decide +kernel
theorem dX1_divide_4 : decode cX1_divide 4 = .ok (.ifCond .eq 43, 3) := by decide +kernel
theorem dX1_divide_7 : decode cX1_divide 7 = .ok (.iload_n 2, 1) := by decide +kernel
theorem dX1_divide_8 : decode cX1_divide 8 = .ok (.invokestatic 114, 3) := by decide +kernel
theorem dX1_divide_11 : decode cX1_divide 11 = .ok (.ifCond .eq 36, 3) := by decide +kernel
theorem dX1_divide_14 : decode cX1_divide 14 = .ok (.iload_n 1, 1) := by decide +kernel
theorem dX1_divide_15 : decode cX1_divide 15 = .ok (.iload_n 2, 1) := by decide +kernel
theorem dX1_divide_16 : decode cX1_divide 16 = .ok (.if_icmp .eq 31, 3) := by decide +kernel
theorem dX1_divide_19 : decode cX1_divide 19 = .ok (.iload_n 3, 1) := by decide +kernel
theorem dX1_divide_20 : decode cX1_divide 20 = .ok (.invokestatic 114, 3) := by decide +kernel
theorem dX1_divide_23 : decode cX1_divide 23 = .ok (.ifCond .eq 24, 3) := by decide +kernel
theorem dX1_divide_26 : decode cX1_divide 26 = .ok (.iload 4, 2) := by decide +kernel
theorem dX1_divide_28 : decode cX1_divide 28 = .ok (.invokestatic 114, 3) := by decide +kernel
theorem dX1_divide_31 : decode cX1_divide 31 = .ok (.ifCond .eq 16, 3) := by decide +kernel
theorem dX1_divide_34 : decode cX1_divide 34 = .ok (.iload 5, 2) := by decide +kernel
theorem dX1_divide_36 : decode cX1_divide 36 = .ok (.iconst 1, 1) := by decide +kernel
theorem dX1_divide_37 : decode cX1_divide 37 = .ok (.if_icmp .lt 10, 3) := by decide +kernel
theorem dX1_divide_40 : decode cX1_divide 40 = .ok (.iload 5, 2) := by decide +kernel
theorem dX1_divide_42 : decode cX1_divide 42 = .ok (.bipush 20, 2) := by decide +kernel
theorem dX1_divide_44 : decode cX1_divide 44 = .ok (.if_icmp .le 5, 3) := by decide +kernel
theorem dX1_divide_47 : decode cX1_divide 47 = .ok (.iconst (-1), 1) := by decide +kernel
theorem dX1_divide_48 : decode cX1_divide 48 = .ok (.ireturn, 1) := by decide +kernel
theorem dX1_divide_49 : decode cX1_divide 49 = .ok (.aload_n 0, 1) := by decide +kernel
theorem dX1_divide_50 : decode cX1_divide 50 = .ok (.getfield 29, 3) := by decide +kernel
theorem dX1_divide_53 : decode cX1_divide 53 = .ok (.iload 4, 2) := by decide +kernel
theorem dX1_divide_55 : decode cX1_divide 55 = .ok (.aaload, 1) := by decide +kernel
theorem dX1_divide_56 : decode cX1_divide 56 = .ok (.astore 6, 2) := by decide +kernel
theorem dX1_divide_58 : decode cX1_divide 58 = .ok (.aload 6, 2) := by decide +kernel
theorem dX1_divide_60 : decode cX1_divide 60 = .ok (.iconst 0, 1) := by decide +kernel
theorem dX1_divide_61 : decode cX1_divide 61 = .ok (.invokevirtual 132, 3) := by decide +kernel
theorem dX1_divide_64 : decode cX1_divide 64 = .ok (.istore 7, 2) := by decide +kernel
theorem dX1_divide_66 : decode cX1_divide 66 = .ok (.iload 7, 2) := by decide +kernel
theorem dX1_divide_68 : decode cX1_divide 68 = .ok (.ifCond .lt 17, 3) := by decide +kernel
theorem dX1_divide_71 : decode cX1_divide 71 = .ok (.aload 6, 2) := by decide +kernel
theorem dX1_divide_73 : decode cX1_divide 73 = .ok (.getfield 120, 3) := by decide +kernel
theorem dX1_divide_76 : decode cX1_divide 76 = .ok (.iload 7, 2) := by decide +kernel
theorem dX1_divide_78 : decode cX1_divide 78 = .ok (.laload, 1) := by decide +kernel
theorem dX1_divide_79 : decode cX1_divide 79 = .ok (.invokestatic 148, 3) := by decide +kernel
theorem dX1_divide_82 : decode cX1_divide 82 = .ok (.ifCond .ne 6, 3) := by decide +kernel
theorem dX1_divide_85 : decode cX1_divide 85 = .ok (.bipush (-2), 2) := by decide +kernel
theorem dX1_divide_87 : decode cX1_divide 87 = .ok (.ireturn, 1) := by decide +kernel
theorem dX1_divide_88 : decode cX1_divide 88 = .ok (.aload_n 0, 1) := by decide +kernel
theorem dX1_divide_89 : decode cX1_divide 89 = .ok (.getfield 34, 3) := by decide +kernel
theorem dX1_divide_92 : decode cX1_divide 92 = .ok (.invokevirtual 152, 3) := by decide +kernel
theorem dX1_divide_95 : decode cX1_divide 95 = .ok (.aload_n 0, 1) := by decide +kernel
theorem dX1_divide_96 : decode cX1_divide 96 = .ok (.getfield 38, 3) := by decide +kernel
theorem dX1_divide_99 : decode cX1_divide 99 = .ok (.aload_n 0, 1) := by decide +kernel
theorem dX1_divide_100 : decode cX1_divide 100 = .ok (.getfield 29, 3) := by decide +kernel
theorem dX1_divide_103 : decode cX1_divide 103 = .ok (.iload_n 3, 1) := by decide +kernel
theorem dX1_divide_104 : decode cX1_divide 104 = .ok (.aaload, 1) := by decide +kernel
theorem dX1_divide_105 : decode cX1_divide 105 = .ok (.invokevirtual 144, 3) := by decide +kernel
theorem dX1_divide_108 : decode cX1_divide 108 = .ok (.iconst 0, 1) := by decide +kernel
theorem dX1_divide_109 : decode cX1_divide 109 = .ok (.istore 8, 2) := by decide +kernel
theorem dX1_divide_111 : decode cX1_divide 111 = .ok (.iload 8, 2) := by decide +kernel
theorem dX1_divide_113 : decode cX1_divide 113 = .ok (.iload 5, 2) := by decide +kernel
theorem dX1_divide_115 : decode cX1_divide 115 = .ok (.if_icmp .ge 53, 3) := by decide +kernel
theorem dX1_divide_118 : decode cX1_divide 118 = .ok (.aload_n 0, 1) := by decide +kernel
theorem dX1_divide_119 : decode cX1_divide 119 = .ok (.getfield 38, 3) := by decide +kernel
theorem dX1_divide_122 : decode cX1_divide 122 = .ok (.iconst 0, 1) := by decide +kernel
theorem dX1_divide_123 : decode cX1_divide 123 = .ok (.invokevirtual 132, 3) := by decide +kernel
theorem dX1_divide_126 : decode cX1_divide 126 = .ok (.istore 9, 2) := by decide +kernel
theorem dX1_divide_128 : decode cX1_divide 128 = .ok (.iload 9, 2) := by decide +kernel
theorem dX1_divide_130 : decode cX1_divide 130 = .ok (.ifCond .lt 38, 3) := by decide +kernel
theorem dX1_divide_133 : decode cX1_divide 133 = .ok (.iload 9, 2) := by decide +kernel
theorem dX1_divide_135 : decode cX1_divide 135 = .ok (.iload 7, 2) := by decide +kernel
theorem dX1_divide_137 : decode cX1_divide 137 = .ok (.isub, 1) := by decide +kernel
theorem dX1_divide_138 : decode cX1_divide 138 = .ok (.bipush (-6), 2) := by decide +kernel
theorem dX1_divide_140 : decode cX1_divide 140 = .ok (.if_icmp .ge 6, 3) := by decide +kernel
theorem dX1_divide_143 : decode cX1_divide 143 = .ok (.goto 25, 3) := by decide +kernel
theorem dX1_divide_146 : decode cX1_divide 146 = .ok (.aload_n 0, 1) := by decide +kernel
theorem dX1_divide_147 : decode cX1_divide 147 = .ok (.aload 6, 2) := by decide +kernel
theorem dX1_divide_149 : decode cX1_divide 149 = .ok (.iload 7, 2) := by decide +kernel
theorem dX1_divide_151 : decode cX1_divide 151 = .ok (.iload 9, 2) := by decide +kernel
theorem dX1_divide_153 : decode cX1_divide 153 = .ok (.invokevirtual 155, 3) := by decide +kernel
theorem dX1_divide_156 : decode cX1_divide 156 = .ok (.ifCond .ne 6, 3) := by decide +kernel
theorem dX1_divide_159 : decode cX1_divide 159 = .ok (.bipush (-5), 2) := by decide +kernel
theorem dX1_divide_161 : decode cX1_divide 161 = .ok (.ireturn, 1) := by decide +kernel
theorem dX1_divide_162 : decode cX1_divide 162 = .ok (.iinc 8 1, 3) := by decide +kernel
theorem dX1_divide_165 : decode cX1_divide 165 = .ok (.goto (-54), 3) := by decide +kernel
theorem dX1_divide_168 : decode cX1_divide 168 = .ok (.aload_n 0, 1) := by decide +kernel
theorem dX1_divide_169 : decode cX1_divide 169 = .ok (.getfield 29, 3) := by decide +kernel
theorem dX1_divide_172 : decode cX1_divide 172 = .ok (.iload_n 1, 1) := by decide +kernel
theorem dX1_divide_173 : decode cX1_divide 173 = .ok (.aaload, 1) := by decide +kernel
theorem dX1_divide_174 : decode cX1_divide 174 = .ok (.aload_n 0, 1) := by decide +kernel
theorem dX1_divide_175 : decode cX1_divide 175 = .ok (.getfield 34, 3) := by decide +kernel
theorem dX1_divide_178 : decode cX1_divide 178 = .ok (.invokevirtual 144, 3) := by decide +kernel
theorem dX1_divide_181 : decode cX1_divide 181 = .ok (.aload_n 0, 1) := by decide +kernel
theorem dX1_divide_182 : decode cX1_divide 182 = .ok (.getfield 29, 3) := by decide +kernel
theorem dX1_divide_185 : decode cX1_divide 185 = .ok (.iload_n 2, 1) := by decide +kernel
theorem dX1_divide_186 : decode cX1_divide 186 = .ok (.aaload, 1) := by decide +kernel
theorem dX1_divide_187 : decode cX1_divide 187 = .ok (.aload_n 0, 1) := by decide +kernel
theorem dX1_divide_188 : decode cX1_divide 188 = .ok (.getfield 38, 3) := by decide +kernel
theorem dX1_divide_191 : decode cX1_divide 191 = .ok (.invokevirtual 144, 3) := by decide +kernel
theorem dX1_divide_194 : decode cX1_divide 194 = .ok (.iload 8, 2) := by decide +kernel
theorem dX1_divide_196 : decode cX1_divide 196 = .ok (.ireturn, 1) := by decide +kernel
theorem dX1_order_0 : decode cX1_order 0 = .ok (.iload_n 1, 1) := by decide +kernel
theorem dX1_order_1 : decode cX1_order 1 = .ok (.invokestatic 114, 3) := by decide +kernel
theorem dX1_order_4 : decode cX1_order 4 = .ok (.ifCond .eq 10, 3) := by decide +kernel
theorem dX1_order_7 : decode cX1_order 7 = .ok (.iload_n 2, 1) := by decide +kernel
theorem dX1_order_8 : decode cX1_order 8 = .ok (.invokestatic 114, 3) := by decide +kernel
theorem dX1_order_11 : decode cX1_order 11 = .ok (.ifCond .ne 6, 3) := by decide +kernel
theorem dX1_order_14 : decode cX1_order 14 = .ok (.bipush (-9), 2) := by decide +kernel
theorem dX1_order_16 : decode cX1_order 16 = .ok (.ireturn, 1) := by decide +kernel
theorem dX1_order_17 : decode cX1_order 17 = .ok (.aload_n 0, 1) := by decide +kernel
theorem dX1_order_18 : decode cX1_order 18 = .ok (.getfield 34, 3) := by decide +kernel
theorem dX1_order_21 : decode cX1_order 21 = .ok (.aload_n 0, 1) := by decide +kernel
theorem dX1_order_22 : decode cX1_order 22 = .ok (.getfield 29, 3) := by decide +kernel
theorem dX1_order_25 : decode cX1_order 25 = .ok (.iload_n 1, 1) := by decide +kernel
theorem dX1_order_26 : decode cX1_order 26 = .ok (.aaload, 1) := by decide +kernel
theorem dX1_order_27 : decode cX1_order 27 = .ok (.aload_n 0, 1) := by decide +kernel
theorem dX1_order_28 : decode cX1_order 28 = .ok (.getfield 29, 3) := by decide +kernel
theorem dX1_order_31 : decode cX1_order 31 = .ok (.iload_n 2, 1) := by decide +kernel
theorem dX1_order_32 : decode cX1_order 32 = .ok (.aaload, 1) := by decide +kernel
theorem dX1_order_33 : decode cX1_order 33 = .ok (.iconst 1, 1) := by decide +kernel
theorem dX1_order_34 : decode cX1_order 34 = .ok (.invokevirtual 140, 3) := by decide +kernel
theorem dX1_order_37 : decode cX1_order 37 = .ok (.ifCond .ne 6, 3) := by decide +kernel
theorem dX1_order_40 : decode cX1_order 40 = .ok (.bipush (-5), 2) := by decide +kernel
theorem dX1_order_42 : decode cX1_order 42 = .ok (.ireturn, 1) := by decide +kernel
theorem dX1_order_43 : decode cX1_order 43 = .ok (.aload_n 0, 1) := by decide +kernel
theorem dX1_order_44 : decode cX1_order 44 = .ok (.getfield 34, 3) := by decide +kernel
theorem dX1_order_47 : decode cX1_order 47 = .ok (.iconst 0, 1) := by decide +kernel
theorem dX1_order_48 : decode cX1_order 48 = .ok (.invokevirtual 132, 3) := by decide +kernel
theorem dX1_order_51 : decode cX1_order 51 = .ok (.istore_n 3, 1) := by decide +kernel
theorem dX1_order_52 : decode cX1_order 52 = .ok (.iload_n 3, 1) := by decide +kernel
theorem dX1_order_53 : decode cX1_order 53 = .ok (.ifCond .ge 7, 3) := by decide +kernel
theorem dX1_order_56 : decode cX1_order 56 = .ok (.iconst 0, 1) := by decide +kernel
theorem dX1_order_57 : decode cX1_order 57 = .ok (.goto 15, 3) := by decide +kernel
theorem dX1_order_60 : decode cX1_order 60 = .ok (.aload_n 0, 1) := by decide +kernel
theorem dX1_order_61 : decode cX1_order 61 = .ok (.getfield 34, 3) := by decide +kernel
theorem dX1_order_64 : decode cX1_order 64 = .ok (.getfield 120, 3) := by decide +kernel
theorem dX1_order_67 : decode cX1_order 67 = .ok (.iload_n 3, 1) := by decide +kernel
theorem dX1_order_68 : decode cX1_order 68 = .ok (.laload, 1) := by decide +kernel
theorem dX1_order_69 : decode cX1_order 69 = .ok (.invokestatic 68, 3) := by decide +kernel
theorem dX1_order_72 : decode cX1_order 72 = .ok (.ireturn, 1) := by decide +kernel
theorem dX1_take_0 : decode cX1_take 0 = .ok (.iload_n 1, 1) := by decide +kernel
theorem dX1_take_1 : decode cX1_take 1 = .ok (.invokestatic 114, 3) := by decide +kernel
theorem dX1_take_4 : decode cX1_take 4 = .ok (.ifCond .eq 10, 3) := by decide +kernel
theorem dX1_take_7 : decode cX1_take 7 = .ok (.iload_n 2, 1) := by decide +kernel
theorem dX1_take_8 : decode cX1_take 8 = .ok (.invokestatic 41, 3) := by decide +kernel
theorem dX1_take_11 : decode cX1_take 11 = .ok (.ifCond .ne 5, 3) := by decide +kernel
theorem dX1_take_14 : decode cX1_take 14 = .ok (.iconst (-1), 1) := by decide +kernel
theorem dX1_take_15 : decode cX1_take 15 = .ok (.ireturn, 1) := by decide +kernel
theorem dX1_take_16 : decode cX1_take 16 = .ok (.aload_n 0, 1) := by decide +kernel
theorem dX1_take_17 : decode cX1_take 17 = .ok (.getfield 16, 3) := by decide +kernel
theorem dX1_take_20 : decode cX1_take 20 = .ok (.iload_n 2, 1) := by decide +kernel
theorem dX1_take_21 : decode cX1_take 21 = .ok (.laload, 1) := by decide +kernel
theorem dX1_take_22 : decode cX1_take 22 = .ok (.bipush 23, 2) := by decide +kernel
theorem dX1_take_24 : decode cX1_take 24 = .ok (.invokestatic 123, 3) := by decide +kernel
theorem dX1_take_27 : decode cX1_take 27 = .ok (.lstore_n 3, 1) := by decide +kernel
theorem dX1_take_28 : decode cX1_take 28 = .ok (.lload_n 3, 1) := by decide +kernel
theorem dX1_take_29 : decode cX1_take 29 = .ok (.ldc2_w 159, 3) := by decide +kernel
theorem dX1_take_32 : decode cX1_take 32 = .ok (.lcmp, 1) := by decide +kernel
theorem dX1_take_33 : decode cX1_take 33 = .ok (.ifCond .ne 6, 3) := by decide +kernel
theorem dX1_take_36 : decode cX1_take 36 = .ok (.bipush (-5), 2) := by decide +kernel
theorem dX1_take_38 : decode cX1_take 38 = .ok (.ireturn, 1) := by decide +kernel
theorem dX1_take_39 : decode cX1_take 39 = .ok (.aload_n 0, 1) := by decide +kernel
theorem dX1_take_40 : decode cX1_take 40 = .ok (.getfield 29, 3) := by decide +kernel
theorem dX1_take_43 : decode cX1_take 43 = .ok (.iload_n 1, 1) := by decide +kernel
theorem dX1_take_44 : decode cX1_take 44 = .ok (.aaload, 1) := by decide +kernel
theorem dX1_take_45 : decode cX1_take 45 = .ok (.invokevirtual 152, 3) := by decide +kernel
theorem dX1_take_48 : decode cX1_take 48 = .ok (.aload_n 0, 1) := by decide +kernel
theorem dX1_take_49 : decode cX1_take 49 = .ok (.getfield 29, 3) := by decide +kernel
theorem dX1_take_52 : decode cX1_take 52 = .ok (.iload_n 1, 1) := by decide +kernel
theorem dX1_take_53 : decode cX1_take 53 = .ok (.aaload, 1) := by decide +kernel
theorem dX1_take_54 : decode cX1_take 54 = .ok (.getfield 120, 3) := by decide +kernel
theorem dX1_take_57 : decode cX1_take 57 = .ok (.bipush 6, 2) := by decide +kernel
theorem dX1_take_59 : decode cX1_take 59 = .ok (.lload_n 3, 1) := by decide +kernel
theorem dX1_take_60 : decode cX1_take 60 = .ok (.lastore, 1) := by decide +kernel
theorem dX1_take_61 : decode cX1_take 61 = .ok (.aload_n 0, 1) := by decide +kernel
theorem dX1_take_62 : decode cX1_take 62 = .ok (.getfield 29, 3) := by decide +kernel
theorem dX1_take_65 : decode cX1_take 65 = .ok (.iload_n 1, 1) := by decide +kernel
theorem dX1_take_66 : decode cX1_take 66 = .ok (.aaload, 1) := by decide +kernel
theorem dX1_take_67 : decode cX1_take 67 = .ok (.invokevirtual 127, 3) := by decide +kernel
theorem dX1_take_70 : decode cX1_take 70 = .ok (.ireturn, 1) := by decide +kernel
theorem dX1_near_0 : decode cX1_near 0 = .ok (.iload_n 1, 1) := by decide +kernel
theorem dX1_near_1 : decode cX1_near 1 = .ok (.invokestatic 41, 3) := by decide +kernel
theorem dX1_near_4 : decode cX1_near 4 = .ok (.ifCond .eq 10, 3) := by decide +kernel
theorem dX1_near_7 : decode cX1_near 7 = .ok (.iload_n 2, 1) := by decide +kernel
theorem dX1_near_8 : decode cX1_near 8 = .ok (.invokestatic 114, 3) := by decide +kernel
theorem dX1_near_11 : decode cX1_near 11 = .ok (.ifCond .ne 5, 3) := by decide +kernel
theorem dX1_near_14 : decode cX1_near 14 = .ok (.iconst (-1), 1) := by decide +kernel
theorem dX1_near_15 : decode cX1_near 15 = .ok (.ireturn, 1) := by decide +kernel
theorem dX1_near_16 : decode cX1_near 16 = .ok (.aload_n 0, 1) := by decide +kernel
theorem dX1_near_17 : decode cX1_near 17 = .ok (.getfield 29, 3) := by decide +kernel
theorem dX1_near_20 : decode cX1_near 20 = .ok (.iload_n 2, 1) := by decide +kernel
theorem dX1_near_21 : decode cX1_near 21 = .ok (.aaload, 1) := by decide +kernel
theorem dX1_near_22 : decode cX1_near 22 = .ok (.iconst 0, 1) := by decide +kernel
theorem dX1_near_23 : decode cX1_near 23 = .ok (.invokevirtual 132, 3) := by decide +kernel
theorem dX1_near_26 : decode cX1_near 26 = .ok (.bipush 6, 2) := by decide +kernel
theorem dX1_near_28 : decode cX1_near 28 = .ok (.if_icmp .le 6, 3) := by decide +kernel
theorem dX1_near_31 : decode cX1_near 31 = .ok (.bipush (-2), 2) := by decide +kernel
theorem dX1_near_33 : decode cX1_near 33 = .ok (.ireturn, 1) := by decide +kernel
theorem dX1_near_34 : decode cX1_near 34 = .ok (.aload_n 0, 1) := by decide +kernel
theorem dX1_near_35 : decode cX1_near 35 = .ok (.iload_n 1, 1) := by decide +kernel
theorem dX1_near_36 : decode cX1_near 36 = .ok (.aload_n 0, 1) := by decide +kernel
theorem dX1_near_37 : decode cX1_near 37 = .ok (.getfield 29, 3) := by decide +kernel
theorem dX1_near_40 : decode cX1_near 40 = .ok (.iload_n 2, 1) := by decide +kernel
theorem dX1_near_41 : decode cX1_near 41 = .ok (.aaload, 1) := by decide +kernel
theorem dX1_near_42 : decode cX1_near 42 = .ok (.getfield 120, 3) := by decide +kernel
theorem dX1_near_45 : decode cX1_near 45 = .ok (.bipush 6, 2) := by decide +kernel
theorem dX1_near_47 : decode cX1_near 47 = .ok (.laload, 1) := by decide +kernel
theorem dX1_near_48 : decode cX1_near 48 = .ok (.iconst 3, 1) := by decide +kernel
theorem dX1_near_49 : decode cX1_near 49 = .ok (.lshl, 1) := by decide +kernel
theorem dX1_near_50 : decode cX1_near 50 = .ok (.invokevirtual 53, 3) := by decide +kernel
theorem dX1_near_53 : decode cX1_near 53 = .ok (.ireturn, 1) := by decide +kernel
theorem dX1_isRegister_0 : decode cX1_isRegister 0 = .ok (.iload_n 0, 1) := by decide +kernel
theorem dX1_isRegister_1 : decode cX1_isRegister 1 = .ok (.ifCond .lt 13, 3) := by decide +kernel
theorem dX1_isRegister_4 : decode cX1_isRegister 4 = .ok (.iload_n 0, 1) := by decide +kernel
theorem dX1_isRegister_5 : decode cX1_isRegister 5 = .ok (.bipush 12, 2) := by decide +kernel
theorem dX1_isRegister_7 : decode cX1_isRegister 7 = .ok (.if_icmp .ge 7, 3) := by decide +kernel
theorem dX1_isRegister_10 : decode cX1_isRegister 10 = .ok (.iconst 1, 1) := by decide +kernel
theorem dX1_isRegister_11 : decode cX1_isRegister 11 = .ok (.goto 4, 3) := by decide +kernel
theorem dX1_isRegister_14 : decode cX1_isRegister 14 = .ok (.iconst 0, 1) := by decide +kernel
theorem dX1_isRegister_15 : decode cX1_isRegister 15 = .ok (.ireturn, 1) := by decide +kernel
theorem dX1_areRegisters_0 : decode cX1_areRegisters 0 = .ok (.iload_n 0, 1) := by decide +kernel
theorem dX1_areRegisters_1 : decode cX1_areRegisters 1 = .ok (.bipush 12, 2) := by decide +kernel
