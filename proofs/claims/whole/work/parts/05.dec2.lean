theorem dX2_side_79 : decode cX2_side 79 = .ok (.iconst 1, 1) := by decide +kernel
theorem dX2_side_80 : decode cX2_side 80 = .ok (.iload 4, 2) := by decide +kernel
theorem dX2_side_82 : decode cX2_side 82 = .ok (.ishl, 1) := by decide +kernel
theorem dX2_side_83 : decode cX2_side 83 = .ok (.iconst 1, 1) := by decide +kernel
theorem dX2_side_84 : decode cX2_side 84 = .ok (.isub, 1) := by decide +kernel
theorem dX2_side_85 : decode cX2_side 85 = .ok (.iand, 1) := by decide +kernel
theorem dX2_side_86 : decode cX2_side 86 = .ok (.putfield 47, 3) := by decide +kernel
theorem dX2_side_89 : decode cX2_side 89 = .ok (.aload_n 0, 1) := by decide +kernel
theorem dX2_side_90 : decode cX2_side 90 = .ok (.iload 4, 2) := by decide +kernel
theorem dX2_side_92 : decode cX2_side 92 = .ok (.putfield 44, 3) := by decide +kernel
theorem dX2_side_95 : decode cX2_side 95 = .ok (.aload_n 0, 1) := by decide +kernel
theorem dX2_side_96 : decode cX2_side 96 = .ok (.iload_n 1, 1) := by decide +kernel
theorem dX2_side_97 : decode cX2_side 97 = .ok (.iconst 1, 1) := by decide +kernel
theorem dX2_side_98 : decode cX2_side 98 = .ok (.invokevirtual 68, 3) := by decide +kernel
theorem dX2_side_101 : decode cX2_side 101 = .ok (.ireturn, 1) := by decide +kernel
theorem dX2_cut_0 : decode cX2_cut 0 = .ok (.iload_n 1, 1) := by decide +kernel
theorem dX2_cut_1 : decode cX2_cut 1 = .ok (.invokestatic 52, 3) := by decide +kernel
theorem dX2_cut_4 : decode cX2_cut 4 = .ok (.ifCond .eq 27, 3) := by decide +kernel
theorem dX2_cut_7 : decode cX2_cut 7 = .ok (.iload_n 2, 1) := by decide +kernel
theorem dX2_cut_8 : decode cX2_cut 8 = .ok (.i2l, 1) := by decide +kernel
theorem dX2_cut_9 : decode cX2_cut 9 = .ok (.lconst 0, 1) := by decide +kernel
theorem dX2_cut_10 : decode cX2_cut 10 = .ok (.ldc2_w 83, 3) := by decide +kernel
theorem dX2_cut_13 : decode cX2_cut 13 = .ok (.invokestatic 32, 3) := by decide +kernel
theorem dX2_cut_16 : decode cX2_cut 16 = .ok (.ifCond .eq 15, 3) := by decide +kernel
theorem dX2_cut_19 : decode cX2_cut 19 = .ok (.iload_n 3, 1) := by decide +kernel
theorem dX2_cut_20 : decode cX2_cut 20 = .ok (.i2l, 1) := by decide +kernel
theorem dX2_cut_21 : decode cX2_cut 21 = .ok (.lconst 0, 1) := by decide +kernel
theorem dX2_cut_22 : decode cX2_cut 22 = .ok (.ldc2_w 83, 3) := by decide +kernel
theorem dX2_cut_25 : decode cX2_cut 25 = .ok (.invokestatic 32, 3) := by decide +kernel
theorem dX2_cut_28 : decode cX2_cut 28 = .ok (.ifCond .ne 5, 3) := by decide +kernel
theorem dX2_cut_31 : decode cX2_cut 31 = .ok (.iconst (-1), 1) := by decide +kernel
theorem dX2_cut_32 : decode cX2_cut 32 = .ok (.ireturn, 1) := by decide +kernel
theorem dX2_cut_33 : decode cX2_cut 33 = .ok (.lconst 0, 1) := by decide +kernel
theorem dX2_cut_34 : decode cX2_cut 34 = .ok (.lstore 4, 2) := by decide +kernel
theorem dX2_cut_36 : decode cX2_cut 36 = .ok (.lconst 0, 1) := by decide +kernel
theorem dX2_cut_37 : decode cX2_cut 37 = .ok (.lstore 6, 2) := by decide +kernel
theorem dX2_cut_39 : decode cX2_cut 39 = .ok (.iconst 0, 1) := by decide +kernel
theorem dX2_cut_40 : decode cX2_cut 40 = .ok (.istore 8, 2) := by decide +kernel
theorem dX2_cut_42 : decode cX2_cut 42 = .ok (.iconst 0, 1) := by decide +kernel
theorem dX2_cut_43 : decode cX2_cut 43 = .ok (.istore 9, 2) := by decide +kernel
theorem dX2_cut_45 : decode cX2_cut 45 = .ok (.iconst 0, 1) := by decide +kernel
theorem dX2_cut_46 : decode cX2_cut 46 = .ok (.istore 10, 2) := by decide +kernel
theorem dX2_cut_48 : decode cX2_cut 48 = .ok (.iload 10, 2) := by decide +kernel
theorem dX2_cut_50 : decode cX2_cut 50 = .ok (.bipush 12, 2) := by decide +kernel
theorem dX2_cut_52 : decode cX2_cut 52 = .ok (.if_icmp .ge 76, 3) := by decide +kernel
theorem dX2_cut_55 : decode cX2_cut 55 = .ok (.iconst 0, 1) := by decide +kernel
theorem dX2_cut_56 : decode cX2_cut 56 = .ok (.istore 11, 2) := by decide +kernel
theorem dX2_cut_58 : decode cX2_cut 58 = .ok (.iload 11, 2) := by decide +kernel
theorem dX2_cut_60 : decode cX2_cut 60 = .ok (.bipush 12, 2) := by decide +kernel
theorem dX2_cut_62 : decode cX2_cut 62 = .ok (.if_icmp .ge 60, 3) := by decide +kernel
theorem dX2_cut_65 : decode cX2_cut 65 = .ok (.iload_n 2, 1) := by decide +kernel
theorem dX2_cut_66 : decode cX2_cut 66 = .ok (.iload 10, 2) := by decide +kernel
theorem dX2_cut_68 : decode cX2_cut 68 = .ok (.ishr, 1) := by decide +kernel
theorem dX2_cut_69 : decode cX2_cut 69 = .ok (.iconst 1, 1) := by decide +kernel
theorem dX2_cut_70 : decode cX2_cut 70 = .ok (.iand, 1) := by decide +kernel
theorem dX2_cut_71 : decode cX2_cut 71 = .ok (.iconst 1, 1) := by decide +kernel
theorem dX2_cut_72 : decode cX2_cut 72 = .ok (.if_icmp .ne 50, 3) := by decide +kernel
theorem dX2_cut_75 : decode cX2_cut 75 = .ok (.iload_n 3, 1) := by decide +kernel
theorem dX2_cut_76 : decode cX2_cut 76 = .ok (.iload 11, 2) := by decide +kernel
theorem dX2_cut_78 : decode cX2_cut 78 = .ok (.ishr, 1) := by decide +kernel
theorem dX2_cut_79 : decode cX2_cut 79 = .ok (.iconst 1, 1) := by decide +kernel
theorem dX2_cut_80 : decode cX2_cut 80 = .ok (.iand, 1) := by decide +kernel
theorem dX2_cut_81 : decode cX2_cut 81 = .ok (.iconst 1, 1) := by decide +kernel
theorem dX2_cut_82 : decode cX2_cut 82 = .ok (.if_icmp .ne 34, 3) := by decide +kernel
theorem dX2_cut_85 : decode cX2_cut 85 = .ok (.aload_n 0, 1) := by decide +kernel
theorem dX2_cut_86 : decode cX2_cut 86 = .ok (.iload 10, 2) := by decide +kernel
theorem dX2_cut_88 : decode cX2_cut 88 = .ok (.invokevirtual 73, 3) := by decide +kernel
theorem dX2_cut_91 : decode cX2_cut 91 = .ok (.aload_n 0, 1) := by decide +kernel
theorem dX2_cut_92 : decode cX2_cut 92 = .ok (.iload 11, 2) := by decide +kernel
theorem dX2_cut_94 : decode cX2_cut 94 = .ok (.invokevirtual 73, 3) := by decide +kernel
theorem dX2_cut_97 : decode cX2_cut 97 = .ok (.lcmp, 1) := by decide +kernel
theorem dX2_cut_98 : decode cX2_cut 98 = .ok (.ifCond .lt 18, 3) := by decide +kernel
theorem dX2_cut_101 : decode cX2_cut 101 = .ok (.aload_n 0, 1) := by decide +kernel
theorem dX2_cut_102 : decode cX2_cut 102 = .ok (.iload 10, 2) := by decide +kernel
theorem dX2_cut_104 : decode cX2_cut 104 = .ok (.putfield 16, 3) := by decide +kernel
theorem dX2_cut_107 : decode cX2_cut 107 = .ok (.aload_n 0, 1) := by decide +kernel
theorem dX2_cut_108 : decode cX2_cut 108 = .ok (.iload 11, 2) := by decide +kernel
theorem dX2_cut_110 : decode cX2_cut 110 = .ok (.putfield 20, 3) := by decide +kernel
theorem dX2_cut_113 : decode cX2_cut 113 = .ok (.bipush (-2), 2) := by decide +kernel
theorem dX2_cut_115 : decode cX2_cut 115 = .ok (.ireturn, 1) := by decide +kernel
theorem dX2_cut_116 : decode cX2_cut 116 = .ok (.iinc 11 1, 3) := by decide +kernel
theorem dX2_cut_119 : decode cX2_cut 119 = .ok (.goto (-61), 3) := by decide +kernel
theorem dX2_cut_122 : decode cX2_cut 122 = .ok (.iinc 10 1, 3) := by decide +kernel
theorem dX2_cut_125 : decode cX2_cut 125 = .ok (.goto (-77), 3) := by decide +kernel
theorem dX2_cut_128 : decode cX2_cut 128 = .ok (.iconst 0, 1) := by decide +kernel
theorem dX2_cut_129 : decode cX2_cut 129 = .ok (.istore 10, 2) := by decide +kernel
theorem dX2_cut_131 : decode cX2_cut 131 = .ok (.iload 10, 2) := by decide +kernel
theorem dX2_cut_133 : decode cX2_cut 133 = .ok (.bipush 12, 2) := by decide +kernel
theorem dX2_cut_135 : decode cX2_cut 135 = .ok (.if_icmp .ge 95, 3) := by decide +kernel
theorem dX2_cut_138 : decode cX2_cut 138 = .ok (.iload_n 2, 1) := by decide +kernel
theorem dX2_cut_139 : decode cX2_cut 139 = .ok (.iload 10, 2) := by decide +kernel
theorem dX2_cut_141 : decode cX2_cut 141 = .ok (.ishr, 1) := by decide +kernel
theorem dX2_cut_142 : decode cX2_cut 142 = .ok (.iconst 1, 1) := by decide +kernel
theorem dX2_cut_143 : decode cX2_cut 143 = .ok (.iand, 1) := by decide +kernel
theorem dX2_cut_144 : decode cX2_cut 144 = .ok (.iconst 1, 1) := by decide +kernel
theorem dX2_cut_145 : decode cX2_cut 145 = .ok (.if_icmp .ne 36, 3) := by decide +kernel
theorem dX2_cut_148 : decode cX2_cut 148 = .ok (.iload 8, 2) := by decide +kernel
theorem dX2_cut_150 : decode cX2_cut 150 = .ok (.ifCond .eq 15, 3) := by decide +kernel
theorem dX2_cut_153 : decode cX2_cut 153 = .ok (.aload_n 0, 1) := by decide +kernel
theorem dX2_cut_154 : decode cX2_cut 154 = .ok (.iload 10, 2) := by decide +kernel
theorem dX2_cut_156 : decode cX2_cut 156 = .ok (.invokevirtual 73, 3) := by decide +kernel
theorem dX2_cut_159 : decode cX2_cut 159 = .ok (.lload 4, 2) := by decide +kernel
theorem dX2_cut_161 : decode cX2_cut 161 = .ok (.lcmp, 1) := by decide +kernel
theorem dX2_cut_162 : decode cX2_cut 162 = .ok (.ifCond .le 12, 3) := by decide +kernel
theorem dX2_cut_165 : decode cX2_cut 165 = .ok (.aload_n 0, 1) := by decide +kernel
theorem dX2_cut_166 : decode cX2_cut 166 = .ok (.iload 10, 2) := by decide +kernel
theorem dX2_cut_168 : decode cX2_cut 168 = .ok (.invokevirtual 73, 3) := by decide +kernel
theorem dX2_cut_171 : decode cX2_cut 171 = .ok (.goto 5, 3) := by decide +kernel
theorem dX2_cut_174 : decode cX2_cut 174 = .ok (.lload 4, 2) := by decide +kernel
theorem dX2_cut_176 : decode cX2_cut 176 = .ok (.lstore 4, 2) := by decide +kernel
theorem dX2_cut_178 : decode cX2_cut 178 = .ok (.iconst 1, 1) := by decide +kernel
theorem dX2_cut_179 : decode cX2_cut 179 = .ok (.istore 8, 2) := by decide +kernel
theorem dX2_cut_181 : decode cX2_cut 181 = .ok (.iload_n 3, 1) := by decide +kernel
theorem dX2_cut_182 : decode cX2_cut 182 = .ok (.iload 10, 2) := by decide +kernel
theorem dX2_cut_184 : decode cX2_cut 184 = .ok (.ishr, 1) := by decide +kernel
theorem dX2_cut_185 : decode cX2_cut 185 = .ok (.iconst 1, 1) := by decide +kernel
theorem dX2_cut_186 : decode cX2_cut 186 = .ok (.iand, 1) := by decide +kernel
theorem dX2_cut_187 : decode cX2_cut 187 = .ok (.iconst 1, 1) := by decide +kernel
theorem dX2_cut_188 : decode cX2_cut 188 = .ok (.if_icmp .ne 36, 3) := by decide +kernel
theorem dX2_cut_191 : decode cX2_cut 191 = .ok (.iload 9, 2) := by decide +kernel
theorem dX2_cut_193 : decode cX2_cut 193 = .ok (.ifCond .eq 15, 3) := by decide +kernel
theorem dX2_cut_196 : decode cX2_cut 196 = .ok (.aload_n 0, 1) := by decide +kernel
theorem dX2_cut_197 : decode cX2_cut 197 = .ok (.iload 10, 2) := by decide +kernel
theorem dX2_cut_199 : decode cX2_cut 199 = .ok (.invokevirtual 73, 3) := by decide +kernel
theorem dX2_cut_202 : decode cX2_cut 202 = .ok (.lload 6, 2) := by decide +kernel
theorem dX2_cut_204 : decode cX2_cut 204 = .ok (.lcmp, 1) := by decide +kernel
theorem dX2_cut_205 : decode cX2_cut 205 = .ok (.ifCond .ge 12, 3) := by decide +kernel
theorem dX2_cut_208 : decode cX2_cut 208 = .ok (.aload_n 0, 1) := by decide +kernel
theorem dX2_cut_209 : decode cX2_cut 209 = .ok (.iload 10, 2) := by decide +kernel
theorem dX2_cut_211 : decode cX2_cut 211 = .ok (.invokevirtual 73, 3) := by decide +kernel
theorem dX2_cut_214 : decode cX2_cut 214 = .ok (.goto 5, 3) := by decide +kernel
theorem dX2_cut_217 : decode cX2_cut 217 = .ok (.lload 6, 2) := by decide +kernel
theorem dX2_cut_219 : decode cX2_cut 219 = .ok (.lstore 6, 2) := by decide +kernel
theorem dX2_cut_221 : decode cX2_cut 221 = .ok (.iconst 1, 1) := by decide +kernel
theorem dX2_cut_222 : decode cX2_cut 222 = .ok (.istore 9, 2) := by decide +kernel
theorem dX2_cut_224 : decode cX2_cut 224 = .ok (.iinc 10 1, 3) := by decide +kernel
theorem dX2_cut_227 : decode cX2_cut 227 = .ok (.goto (-96), 3) := by decide +kernel
theorem dX2_cut_230 : decode cX2_cut 230 = .ok (.aload_n 0, 1) := by decide +kernel
theorem dX2_cut_231 : decode cX2_cut 231 = .ok (.iload_n 1, 1) := by decide +kernel
theorem dX2_cut_232 : decode cX2_cut 232 = .ok (.aload_n 0, 1) := by decide +kernel
theorem dX2_cut_233 : decode cX2_cut 233 = .ok (.iload 8, 2) := by decide +kernel
theorem dX2_cut_235 : decode cX2_cut 235 = .ok (.lload 4, 2) := by decide +kernel
theorem dX2_cut_237 : decode cX2_cut 237 = .ok (.iload 9, 2) := by decide +kernel
theorem dX2_cut_239 : decode cX2_cut 239 = .ok (.lload 6, 2) := by decide +kernel
theorem dX2_cut_241 : decode cX2_cut 241 = .ok (.invokevirtual 85, 3) := by decide +kernel
theorem dX2_cut_244 : decode cX2_cut 244 = .ok (.invokevirtual 68, 3) := by decide +kernel
theorem dX2_cut_247 : decode cX2_cut 247 = .ok (.ireturn, 1) := by decide +kernel
theorem dX2_pair_0 : decode cX2_pair 0 = .ok (.iload_n 1, 1) := by decide +kernel
theorem dX2_pair_1 : decode cX2_pair 1 = .ok (.ifCond .ne 10, 3) := by decide +kernel
theorem dX2_pair_4 : decode cX2_pair 4 = .ok (.aload_n 0, 1) := by decide +kernel
theorem dX2_pair_5 : decode cX2_pair 5 = .ok (.getfield 16, 3) := by decide +kernel
theorem dX2_pair_8 : decode cX2_pair 8 = .ok (.goto 16, 3) := by decide +kernel
theorem dX2_pair_11 : decode cX2_pair 11 = .ok (.iload_n 1, 1) := by decide +kernel
theorem dX2_pair_12 : decode cX2_pair 12 = .ok (.iconst 1, 1) := by decide +kernel
theorem dX2_pair_13 : decode cX2_pair 13 = .ok (.if_icmp .ne 10, 3) := by decide +kernel
theorem dX2_pair_16 : decode cX2_pair 16 = .ok (.aload_n 0, 1) := by decide +kernel
theorem dX2_pair_17 : decode cX2_pair 17 = .ok (.getfield 20, 3) := by decide +kernel
theorem dX2_pair_20 : decode cX2_pair 20 = .ok (.goto 4, 3) := by decide +kernel
theorem dX2_pair_23 : decode cX2_pair 23 = .ok (.iconst (-1), 1) := by decide +kernel
theorem dX2_pair_24 : decode cX2_pair 24 = .ok (.ireturn, 1) := by decide +kernel
theorem dX2_born_0 : decode cX2_born 0 = .ok (.iload_n 1, 1) := by decide +kernel
theorem dX2_born_1 : decode cX2_born 1 = .ok (.invokestatic 52, 3) := by decide +kernel
theorem dX2_born_4 : decode cX2_born 4 = .ok (.ifCond .eq 30, 3) := by decide +kernel
theorem dX2_born_7 : decode cX2_born 7 = .ok (.iload_n 2, 1) := by decide +kernel
theorem dX2_born_8 : decode cX2_born 8 = .ok (.i2l, 1) := by decide +kernel
theorem dX2_born_9 : decode cX2_born 9 = .ok (.lconst 0, 1) := by decide +kernel
theorem dX2_born_10 : decode cX2_born 10 = .ok (.ldc2_w 62, 3) := by decide +kernel
theorem dX2_born_13 : decode cX2_born 13 = .ok (.invokestatic 32, 3) := by decide +kernel
theorem dX2_born_16 : decode cX2_born 16 = .ok (.ifCond .eq 18, 3) := by decide +kernel
theorem dX2_born_19 : decode cX2_born 19 = .ok (.iload_n 3, 1) := by decide +kernel
theorem dX2_born_20 : decode cX2_born 20 = .ok (.i2l, 1) := by decide +kernel
theorem dX2_born_21 : decode cX2_born 21 = .ok (.lconst 0, 1) := by decide +kernel
theorem dX2_born_22 : decode cX2_born 22 = .ok (.iconst 1, 1) := by decide +kernel
theorem dX2_born_23 : decode cX2_born 23 = .ok (.iload_n 2, 1) := by decide +kernel
theorem dX2_born_24 : decode cX2_born 24 = .ok (.ishl, 1) := by decide +kernel
theorem dX2_born_25 : decode cX2_born 25 = .ok (.iconst 1, 1) := by decide +kernel
theorem dX2_born_26 : decode cX2_born 26 = .ok (.isub, 1) := by decide +kernel
theorem dX2_born_27 : decode cX2_born 27 = .ok (.i2l, 1) := by decide +kernel
theorem dX2_born_28 : decode cX2_born 28 = .ok (.invokestatic 32, 3) := by decide +kernel
theorem dX2_born_31 : decode cX2_born 31 = .ok (.ifCond .ne 5, 3) := by decide +kernel
theorem dX2_born_34 : decode cX2_born 34 = .ok (.iconst (-1), 1) := by decide +kernel
theorem dX2_born_35 : decode cX2_born 35 = .ok (.ireturn, 1) := by decide +kernel
theorem dX2_born_36 : decode cX2_born 36 = .ok (.aload_n 0, 1) := by decide +kernel
theorem dX2_born_37 : decode cX2_born 37 = .ok (.iload_n 2, 1) := by decide +kernel
theorem dX2_born_38 : decode cX2_born 38 = .ok (.putfield 44, 3) := by decide +kernel
theorem dX2_born_41 : decode cX2_born 41 = .ok (.aload_n 0, 1) := by decide +kernel
theorem dX2_born_42 : decode cX2_born 42 = .ok (.iconst 0, 1) := by decide +kernel
theorem dX2_born_43 : decode cX2_born 43 = .ok (.putfield 47, 3) := by decide +kernel
theorem dX2_born_46 : decode cX2_born 46 = .ok (.iconst 0, 1) := by decide +kernel
theorem dX2_born_47 : decode cX2_born 47 = .ok (.istore 4, 2) := by decide +kernel
theorem dX2_born_49 : decode cX2_born 49 = .ok (.iload 4, 2) := by decide +kernel
theorem dX2_born_51 : decode cX2_born 51 = .ok (.iload_n 2, 1) := by decide +kernel
theorem dX2_born_52 : decode cX2_born 52 = .ok (.if_icmp .ge 31, 3) := by decide +kernel
theorem dX2_born_55 : decode cX2_born 55 = .ok (.aload_n 0, 1) := by decide +kernel
theorem dX2_born_56 : decode cX2_born 56 = .ok (.dup, 1) := by decide +kernel
theorem dX2_born_57 : decode cX2_born 57 = .ok (.getfield 47, 3) := by decide +kernel
theorem dX2_born_60 : decode cX2_born 60 = .ok (.iload_n 3, 1) := by decide +kernel
theorem dX2_born_61 : decode cX2_born 61 = .ok (.iload_n 2, 1) := by decide +kernel
theorem dX2_born_62 : decode cX2_born 62 = .ok (.iconst 1, 1) := by decide +kernel
theorem dX2_born_63 : decode cX2_born 63 = .ok (.isub, 1) := by decide +kernel
theorem dX2_born_64 : decode cX2_born 64 = .ok (.iload 4, 2) := by decide +kernel
theorem dX2_born_66 : decode cX2_born 66 = .ok (.isub, 1) := by decide +kernel
theorem dX2_born_67 : decode cX2_born 67 = .ok (.ishr, 1) := by decide +kernel
theorem dX2_born_68 : decode cX2_born 68 = .ok (.iconst 1, 1) := by decide +kernel
theorem dX2_born_69 : decode cX2_born 69 = .ok (.iand, 1) := by decide +kernel
theorem dX2_born_70 : decode cX2_born 70 = .ok (.iload 4, 2) := by decide +kernel
theorem dX2_born_72 : decode cX2_born 72 = .ok (.ishl, 1) := by decide +kernel
theorem dX2_born_73 : decode cX2_born 73 = .ok (.ior, 1) := by decide +kernel
theorem dX2_born_74 : decode cX2_born 74 = .ok (.putfield 47, 3) := by decide +kernel
theorem dX2_born_77 : decode cX2_born 77 = .ok (.iinc 4 1, 3) := by decide +kernel
theorem dX2_born_80 : decode cX2_born 80 = .ok (.goto (-31), 3) := by decide +kernel
theorem dX2_born_83 : decode cX2_born 83 = .ok (.aload_n 0, 1) := by decide +kernel
theorem dX2_born_84 : decode cX2_born 84 = .ok (.iload_n 1, 1) := by decide +kernel
theorem dX2_born_85 : decode cX2_born 85 = .ok (.iconst 1, 1) := by decide +kernel
theorem dX2_born_86 : decode cX2_born 86 = .ok (.invokevirtual 68, 3) := by decide +kernel
theorem dX2_born_89 : decode cX2_born 89 = .ok (.ireturn, 1) := by decide +kernel
theorem dX2_size_0 : decode cX2_size 0 = .ok (.iload_n 0, 1) := by decide +kernel
theorem dX2_size_1 : decode cX2_size 1 = .ok (.iload_n 1, 1) := by decide +kernel
theorem dX2_size_2 : decode cX2_size 2 = .ok (.if_icmp .gt 15, 3) := by decide +kernel
theorem dX2_size_5 : decode cX2_size 5 = .ok (.iconst 1, 1) := by decide +kernel
theorem dX2_size_6 : decode cX2_size 6 = .ok (.iload_n 1, 1) := by decide +kernel
theorem dX2_size_7 : decode cX2_size 7 = .ok (.iload_n 0, 1) := by decide +kernel
theorem dX2_size_8 : decode cX2_size 8 = .ok (.isub, 1) := by decide +kernel
theorem dX2_size_9 : decode cX2_size 9 = .ok (.iconst 1, 1) := by decide +kernel
theorem dX2_size_10 : decode cX2_size 10 = .ok (.iadd, 1) := by decide +kernel
theorem dX2_size_11 : decode cX2_size 11 = .ok (.ishl, 1) := by decide +kernel
theorem dX2_size_12 : decode cX2_size 12 = .ok (.iconst 1, 1) := by decide +kernel
theorem dX2_size_13 : decode cX2_size 13 = .ok (.isub, 1) := by decide +kernel
theorem dX2_size_14 : decode cX2_size 14 = .ok (.goto 4, 3) := by decide +kernel
theorem dX2_size_17 : decode cX2_size 17 = .ok (.iconst 0, 1) := by decide +kernel
theorem dX2_size_18 : decode cX2_size 18 = .ok (.ireturn, 1) := by decide +kernel
theorem dX2_lesser_0 : decode cX2_lesser 0 = .ok (.iconst 0, 1) := by decide +kernel
theorem dX2_lesser_1 : decode cX2_lesser 1 = .ok (.istore_n 3, 1) := by decide +kernel
theorem dX2_lesser_2 : decode cX2_lesser 2 = .ok (.iconst 0, 1) := by decide +kernel
theorem dX2_lesser_3 : decode cX2_lesser 3 = .ok (.istore 4, 2) := by decide +kernel
theorem dX2_lesser_5 : decode cX2_lesser 5 = .ok (.iload 4, 2) := by decide +kernel
theorem dX2_lesser_7 : decode cX2_lesser 7 = .ok (.aload_n 0, 1) := by decide +kernel
theorem dX2_lesser_8 : decode cX2_lesser 8 = .ok (.getfield 7, 3) := by decide +kernel
theorem dX2_lesser_11 : decode cX2_lesser 11 = .ok (.iload_n 1, 1) := by decide +kernel
theorem dX2_lesser_12 : decode cX2_lesser 12 = .ok (.iaload, 1) := by decide +kernel
theorem dX2_lesser_13 : decode cX2_lesser 13 = .ok (.if_icmp .ge 47, 3) := by decide +kernel
theorem dX2_lesser_16 : decode cX2_lesser 16 = .ok (.iload 4, 2) := by decide +kernel
theorem dX2_lesser_18 : decode cX2_lesser 18 = .ok (.iload_n 2, 1) := by decide +kernel
theorem dX2_lesser_19 : decode cX2_lesser 19 = .ok (.if_icmp .gt 41, 3) := by decide +kernel
theorem dX2_lesser_22 : decode cX2_lesser 22 = .ok (.iload_n 3, 1) := by decide +kernel
theorem dX2_lesser_23 : decode cX2_lesser 23 = .ok (.aload_n 0, 1) := by decide +kernel
theorem dX2_lesser_24 : decode cX2_lesser 24 = .ok (.getfield 13, 3) := by decide +kernel
theorem dX2_lesser_27 : decode cX2_lesser 27 = .ok (.iload_n 1, 1) := by decide +kernel
theorem dX2_lesser_28 : decode cX2_lesser 28 = .ok (.iaload, 1) := by decide +kernel
theorem dX2_lesser_29 : decode cX2_lesser 29 = .ok (.iload 4, 2) := by decide +kernel
theorem dX2_lesser_31 : decode cX2_lesser 31 = .ok (.ishr, 1) := by decide +kernel
theorem dX2_lesser_32 : decode cX2_lesser 32 = .ok (.iconst 1, 1) := by decide +kernel
theorem dX2_lesser_33 : decode cX2_lesser 33 = .ok (.iand, 1) := by decide +kernel
theorem dX2_lesser_34 : decode cX2_lesser 34 = .ok (.iconst 1, 1) := by decide +kernel
theorem dX2_lesser_35 : decode cX2_lesser 35 = .ok (.if_icmp .ne 16, 3) := by decide +kernel
theorem dX2_lesser_38 : decode cX2_lesser 38 = .ok (.iconst 1, 1) := by decide +kernel
theorem dX2_lesser_39 : decode cX2_lesser 39 = .ok (.iload 4, 2) := by decide +kernel
theorem dX2_lesser_41 : decode cX2_lesser 41 = .ok (.iconst 1, 1) := by decide +kernel
theorem dX2_lesser_42 : decode cX2_lesser 42 = .ok (.iadd, 1) := by decide +kernel
theorem dX2_lesser_43 : decode cX2_lesser 43 = .ok (.iload_n 2, 1) := by decide +kernel
theorem dX2_lesser_44 : decode cX2_lesser 44 = .ok (.invokestatic 89, 3) := by decide +kernel
theorem dX2_lesser_47 : decode cX2_lesser 47 = .ok (.iadd, 1) := by decide +kernel
theorem dX2_lesser_48 : decode cX2_lesser 48 = .ok (.goto 4, 3) := by decide +kernel
theorem dX2_lesser_51 : decode cX2_lesser 51 = .ok (.iconst 0, 1) := by decide +kernel
theorem dX2_lesser_52 : decode cX2_lesser 52 = .ok (.iadd, 1) := by decide +kernel
theorem dX2_lesser_53 : decode cX2_lesser 53 = .ok (.istore_n 3, 1) := by decide +kernel
theorem dX2_lesser_54 : decode cX2_lesser 54 = .ok (.iinc 4 1, 3) := by decide +kernel
theorem dX2_lesser_57 : decode cX2_lesser 57 = .ok (.goto (-52), 3) := by decide +kernel
theorem dX2_lesser_60 : decode cX2_lesser 60 = .ok (.aload_n 0, 1) := by decide +kernel
theorem dX2_lesser_61 : decode cX2_lesser 61 = .ok (.getfield 7, 3) := by decide +kernel
theorem dX2_lesser_64 : decode cX2_lesser 64 = .ok (.iload_n 1, 1) := by decide +kernel
theorem dX2_lesser_65 : decode cX2_lesser 65 = .ok (.iaload, 1) := by decide +kernel
theorem dX2_lesser_66 : decode cX2_lesser 66 = .ok (.iload_n 2, 1) := by decide +kernel
theorem dX2_lesser_67 : decode cX2_lesser 67 = .ok (.if_icmp .gt 20, 3) := by decide +kernel
theorem dX2_lesser_70 : decode cX2_lesser 70 = .ok (.iload_n 3, 1) := by decide +kernel
theorem dX2_lesser_71 : decode cX2_lesser 71 = .ok (.aload_n 0, 1) := by decide +kernel
theorem dX2_lesser_72 : decode cX2_lesser 72 = .ok (.getfield 7, 3) := by decide +kernel
theorem dX2_lesser_75 : decode cX2_lesser 75 = .ok (.iload_n 1, 1) := by decide +kernel
theorem dX2_lesser_76 : decode cX2_lesser 76 = .ok (.iaload, 1) := by decide +kernel
theorem dX2_lesser_77 : decode cX2_lesser 77 = .ok (.iconst 1, 1) := by decide +kernel
theorem dX2_lesser_78 : decode cX2_lesser 78 = .ok (.iadd, 1) := by decide +kernel
theorem dX2_lesser_79 : decode cX2_lesser 79 = .ok (.iload_n 2, 1) := by decide +kernel
theorem dX2_lesser_80 : decode cX2_lesser 80 = .ok (.invokestatic 89, 3) := by decide +kernel
theorem dX2_lesser_83 : decode cX2_lesser 83 = .ok (.iadd, 1) := by decide +kernel
theorem dX2_lesser_84 : decode cX2_lesser 84 = .ok (.goto 4, 3) := by decide +kernel
theorem dX2_lesser_87 : decode cX2_lesser 87 = .ok (.iload_n 3, 1) := by decide +kernel
theorem dX2_lesser_88 : decode cX2_lesser 88 = .ok (.ireturn, 1) := by decide +kernel
theorem dX2_between_0 : decode cX2_between 0 = .ok (.iload_n 1, 1) := by decide +kernel
theorem dX2_between_1 : decode cX2_between 1 = .ok (.invokestatic 52, 3) := by decide +kernel
theorem dX2_between_4 : decode cX2_between 4 = .ok (.ifCond .eq 22, 3) := by decide +kernel
theorem dX2_between_7 : decode cX2_between 7 = .ok (.iload_n 2, 1) := by decide +kernel
theorem dX2_between_8 : decode cX2_between 8 = .ok (.invokestatic 52, 3) := by decide +kernel
theorem dX2_between_11 : decode cX2_between 11 = .ok (.ifCond .eq 15, 3) := by decide +kernel
theorem dX2_between_14 : decode cX2_between 14 = .ok (.iload_n 3, 1) := by decide +kernel
theorem dX2_between_15 : decode cX2_between 15 = .ok (.i2l, 1) := by decide +kernel
theorem dX2_between_16 : decode cX2_between 16 = .ok (.lconst 0, 1) := by decide +kernel
theorem dX2_between_17 : decode cX2_between 17 = .ok (.ldc2_w 62, 3) := by decide +kernel
theorem dX2_between_20 : decode cX2_between 20 = .ok (.invokestatic 32, 3) := by decide +kernel
theorem dX2_between_23 : decode cX2_between 23 = .ok (.ifCond .ne 5, 3) := by decide +kernel
theorem dX2_between_26 : decode cX2_between 26 = .ok (.iconst (-1), 1) := by decide +kernel
theorem dX2_between_27 : decode cX2_between 27 = .ok (.ireturn, 1) := by decide +kernel
theorem dX2_between_28 : decode cX2_between 28 = .ok (.aload_n 0, 1) := by decide +kernel
theorem dX2_between_29 : decode cX2_between 29 = .ok (.iload_n 1, 1) := by decide +kernel
theorem dX2_between_30 : decode cX2_between 30 = .ok (.invokevirtual 73, 3) := by decide +kernel
theorem dX2_between_33 : decode cX2_between 33 = .ok (.aload_n 0, 1) := by decide +kernel
theorem dX2_between_34 : decode cX2_between 34 = .ok (.iload_n 2, 1) := by decide +kernel
theorem dX2_between_35 : decode cX2_between 35 = .ok (.invokevirtual 73, 3) := by decide +kernel
theorem dX2_between_38 : decode cX2_between 38 = .ok (.lcmp, 1) := by decide +kernel
theorem dX2_between_39 : decode cX2_between 39 = .ok (.ifCond .lt 6, 3) := by decide +kernel
theorem dX2_between_42 : decode cX2_between 42 = .ok (.bipush (-2), 2) := by decide +kernel
theorem dX2_between_44 : decode cX2_between 44 = .ok (.ireturn, 1) := by decide +kernel
theorem dX2_between_45 : decode cX2_between 45 = .ok (.aload_n 0, 1) := by decide +kernel
theorem dX2_between_46 : decode cX2_between 46 = .ok (.iload_n 2, 1) := by decide +kernel
theorem dX2_between_47 : decode cX2_between 47 = .ok (.iload_n 3, 1) := by decide +kernel
theorem dX2_between_48 : decode cX2_between 48 = .ok (.invokevirtual 93, 3) := by decide +kernel
theorem dX2_between_51 : decode cX2_between 51 = .ok (.aload_n 0, 1) := by decide +kernel
theorem dX2_between_52 : decode cX2_between 52 = .ok (.iload_n 1, 1) := by decide +kernel
theorem dX2_between_53 : decode cX2_between 53 = .ok (.iload_n 3, 1) := by decide +kernel
theorem dX2_between_54 : decode cX2_between 54 = .ok (.invokevirtual 93, 3) := by decide +kernel
theorem dX2_between_57 : decode cX2_between 57 = .ok (.isub, 1) := by decide +kernel
theorem dX2_between_58 : decode cX2_between 58 = .ok (.aload_n 0, 1) := by decide +kernel
theorem dX2_between_59 : decode cX2_between 59 = .ok (.getfield 7, 3) := by decide +kernel
theorem dX2_between_62 : decode cX2_between 62 = .ok (.iload_n 1, 1) := by decide +kernel
theorem dX2_between_63 : decode cX2_between 63 = .ok (.iaload, 1) := by decide +kernel
theorem dX2_between_64 : decode cX2_between 64 = .ok (.iload_n 3, 1) := by decide +kernel
theorem dX2_between_65 : decode cX2_between 65 = .ok (.if_icmp .gt 7, 3) := by decide +kernel
theorem dX2_between_68 : decode cX2_between 68 = .ok (.iconst 1, 1) := by decide +kernel
theorem dX2_between_69 : decode cX2_between 69 = .ok (.goto 4, 3) := by decide +kernel
theorem dX2_between_72 : decode cX2_between 72 = .ok (.iconst 0, 1) := by decide +kernel
theorem dX2_between_73 : decode cX2_between 73 = .ok (.isub, 1) := by decide +kernel
theorem dX2_between_74 : decode cX2_between 74 = .ok (.ireturn, 1) := by decide +kernel
theorem dX2_wins_0 : decode cX2_wins 0 = .ok (.iload_n 1, 1) := by decide +kernel
theorem dX2_wins_1 : decode cX2_wins 1 = .ok (.i2l, 1) := by decide +kernel
theorem dX2_wins_2 : decode cX2_wins 2 = .ok (.lconst 0, 1) := by decide +kernel
theorem dX2_wins_3 : decode cX2_wins 3 = .ok (.ldc2_w 83, 3) := by decide +kernel
theorem dX2_wins_6 : decode cX2_wins 6 = .ok (.invokestatic 32, 3) := by decide +kernel
theorem dX2_wins_9 : decode cX2_wins 9 = .ok (.ifCond .eq 13, 3) := by decide +kernel
theorem dX2_wins_12 : decode cX2_wins 12 = .ok (.iload_n 2, 1) := by decide +kernel
theorem dX2_wins_13 : decode cX2_wins 13 = .ok (.i2l, 1) := by decide +kernel
theorem dX2_wins_14 : decode cX2_wins 14 = .ok (.lconst 0, 1) := by decide +kernel
theorem dX2_wins_15 : decode cX2_wins 15 = .ok (.lconst 1, 1) := by decide +kernel
theorem dX2_wins_16 : decode cX2_wins 16 = .ok (.invokestatic 32, 3) := by decide +kernel
theorem dX2_wins_19 : decode cX2_wins 19 = .ok (.ifCond .ne 5, 3) := by decide +kernel
theorem dX2_wins_22 : decode cX2_wins 22 = .ok (.iconst (-1), 1) := by decide +kernel
theorem dX2_wins_23 : decode cX2_wins 23 = .ok (.ireturn, 1) := by decide +kernel
theorem dX2_wins_24 : decode cX2_wins 24 = .ok (.iconst 0, 1) := by decide +kernel
theorem dX2_wins_25 : decode cX2_wins 25 = .ok (.istore_n 3, 1) := by decide +kernel
theorem dX2_wins_26 : decode cX2_wins 26 = .ok (.iconst 0, 1) := by decide +kernel
theorem dX2_wins_27 : decode cX2_wins 27 = .ok (.istore 4, 2) := by decide +kernel
theorem dX2_wins_29 : decode cX2_wins 29 = .ok (.lconst 0, 1) := by decide +kernel
theorem dX2_wins_30 : decode cX2_wins 30 = .ok (.lstore 5, 2) := by decide +kernel
theorem dX2_wins_32 : decode cX2_wins 32 = .ok (.iconst 0, 1) := by decide +kernel
theorem dX2_wins_33 : decode cX2_wins 33 = .ok (.istore 7, 2) := by decide +kernel
theorem dX2_wins_35 : decode cX2_wins 35 = .ok (.iload 7, 2) := by decide +kernel
theorem dX2_wins_37 : decode cX2_wins 37 = .ok (.bipush 12, 2) := by decide +kernel
theorem dX2_wins_39 : decode cX2_wins 39 = .ok (.if_icmp .ge 45, 3) := by decide +kernel
theorem dX2_wins_42 : decode cX2_wins 42 = .ok (.iload_n 1, 1) := by decide +kernel
theorem dX2_wins_43 : decode cX2_wins 43 = .ok (.iload 7, 2) := by decide +kernel
theorem dX2_wins_45 : decode cX2_wins 45 = .ok (.ishr, 1) := by decide +kernel
theorem dX2_wins_46 : decode cX2_wins 46 = .ok (.iconst 1, 1) := by decide +kernel
theorem dX2_wins_47 : decode cX2_wins 47 = .ok (.iand, 1) := by decide +kernel
theorem dX2_wins_48 : decode cX2_wins 48 = .ok (.iconst 1, 1) := by decide +kernel
theorem dX2_wins_49 : decode cX2_wins 49 = .ok (.if_icmp .ne 29, 3) := by decide +kernel
theorem dX2_wins_52 : decode cX2_wins 52 = .ok (.iinc 3 1, 3) := by decide +kernel
theorem dX2_wins_55 : decode cX2_wins 55 = .ok (.iload 4, 2) := by decide +kernel
theorem dX2_wins_57 : decode cX2_wins 57 = .ok (.aload_n 0, 1) := by decide +kernel
theorem dX2_wins_58 : decode cX2_wins 58 = .ok (.getfield 7, 3) := by decide +kernel
theorem dX2_wins_61 : decode cX2_wins 61 = .ok (.iload 7, 2) := by decide +kernel
theorem dX2_wins_63 : decode cX2_wins 63 = .ok (.iaload, 1) := by decide +kernel
theorem dX2_wins_64 : decode cX2_wins 64 = .ok (.iadd, 1) := by decide +kernel
theorem dX2_wins_65 : decode cX2_wins 65 = .ok (.istore 4, 2) := by decide +kernel
theorem dX2_wins_67 : decode cX2_wins 67 = .ok (.lload 5, 2) := by decide +kernel
theorem dX2_wins_69 : decode cX2_wins 69 = .ok (.aload_n 0, 1) := by decide +kernel
theorem dX2_wins_70 : decode cX2_wins 70 = .ok (.iload 7, 2) := by decide +kernel
theorem dX2_wins_72 : decode cX2_wins 72 = .ok (.invokevirtual 73, 3) := by decide +kernel
theorem dX2_wins_75 : decode cX2_wins 75 = .ok (.ladd, 1) := by decide +kernel
theorem dX2_wins_76 : decode cX2_wins 76 = .ok (.lstore 5, 2) := by decide +kernel
theorem dX2_wins_78 : decode cX2_wins 78 = .ok (.iinc 7 1, 3) := by decide +kernel
theorem dX2_wins_81 : decode cX2_wins 81 = .ok (.goto (-46), 3) := by decide +kernel
theorem dX2_wins_84 : decode cX2_wins 84 = .ok (.iload_n 3, 1) := by decide +kernel
theorem dX2_wins_85 : decode cX2_wins 85 = .ok (.iconst 4, 1) := by decide +kernel
theorem dX2_wins_86 : decode cX2_wins 86 = .ok (.if_icmp .gt 10, 3) := by decide +kernel
theorem dX2_wins_89 : decode cX2_wins 89 = .ok (.iload 4, 2) := by decide +kernel
theorem dX2_wins_91 : decode cX2_wins 91 = .ok (.bipush 14, 2) := by decide +kernel
theorem dX2_wins_93 : decode cX2_wins 93 = .ok (.if_icmp .le 6, 3) := by decide +kernel
theorem dX2_wins_96 : decode cX2_wins 96 = .ok (.bipush (-2), 2) := by decide +kernel
theorem dX2_wins_98 : decode cX2_wins 98 = .ok (.ireturn, 1) := by decide +kernel
theorem dX2_wins_99 : decode cX2_wins 99 = .ok (.iload_n 2, 1) := by decide +kernel
theorem dX2_wins_100 : decode cX2_wins 100 = .ok (.ifCond .ne 13, 3) := by decide +kernel
theorem dX2_wins_103 : decode cX2_wins 103 = .ok (.lload 5, 2) := by decide +kernel
theorem dX2_wins_105 : decode cX2_wins 105 = .ok (.lconst 0, 1) := by decide +kernel
theorem dX2_wins_106 : decode cX2_wins 106 = .ok (.lcmp, 1) := by decide +kernel
theorem dX2_wins_107 : decode cX2_wins 107 = .ok (.ifCond .le 17, 3) := by decide +kernel
theorem dX2_wins_110 : decode cX2_wins 110 = .ok (.goto 10, 3) := by decide +kernel
theorem dX2_wins_113 : decode cX2_wins 113 = .ok (.lload 5, 2) := by decide +kernel
theorem dX2_wins_115 : decode cX2_wins 115 = .ok (.lconst 0, 1) := by decide +kernel
theorem dX2_wins_116 : decode cX2_wins 116 = .ok (.lcmp, 1) := by decide +kernel
theorem dX2_wins_117 : decode cX2_wins 117 = .ok (.ifCond .ge 7, 3) := by decide +kernel
theorem dX2_wins_120 : decode cX2_wins 120 = .ok (.iconst 1, 1) := by decide +kernel
theorem dX2_wins_121 : decode cX2_wins 121 = .ok (.goto 4, 3) := by decide +kernel
theorem dX2_wins_124 : decode cX2_wins 124 = .ok (.iconst 0, 1) := by decide +kernel
theorem dX2_wins_125 : decode cX2_wins 125 = .ok (.ireturn, 1) := by decide +kernel
theorem dX2_plain_0 : decode cX2_plain 0 = .ok (.aload_n 0, 1) := by decide +kernel
theorem dX2_plain_1 : decode cX2_plain 1 = .ok (.lload_n 1, 1) := by decide +kernel
theorem dX2_plain_2 : decode cX2_plain 2 = .ok (.putfield 96, 3) := by decide +kernel
theorem dX2_plain_5 : decode cX2_plain 5 = .ok (.aload_n 0, 1) := by decide +kernel
theorem dX2_plain_6 : decode cX2_plain 6 = .ok (.iload_n 3, 1) := by decide +kernel
theorem dX2_plain_7 : decode cX2_plain 7 = .ok (.putfield 100, 3) := by decide +kernel
theorem dX2_plain_10 : decode cX2_plain 10 = .ok (.aload_n 0, 1) := by decide +kernel
theorem dX2_plain_11 : decode cX2_plain 11 = .ok (.getfield 100, 3) := by decide +kernel
theorem dX2_plain_14 : decode cX2_plain 14 = .ok (.ifCond .le 41, 3) := by decide +kernel
theorem dX2_plain_17 : decode cX2_plain 17 = .ok (.aload_n 0, 1) := by decide +kernel
theorem dX2_plain_18 : decode cX2_plain 18 = .ok (.getfield 96, 3) := by decide +kernel
theorem dX2_plain_21 : decode cX2_plain 21 = .ok (.ldc2_w 38, 3) := by decide +kernel
theorem dX2_plain_24 : decode cX2_plain 24 = .ok (.lrem, 1) := by decide +kernel
theorem dX2_plain_25 : decode cX2_plain 25 = .ok (.lconst 0, 1) := by decide +kernel
theorem dX2_plain_26 : decode cX2_plain 26 = .ok (.lcmp, 1) := by decide +kernel
theorem dX2_plain_27 : decode cX2_plain 27 = .ok (.ifCond .ne 28, 3) := by decide +kernel
theorem dX2_plain_30 : decode cX2_plain 30 = .ok (.aload_n 0, 1) := by decide +kernel
theorem dX2_plain_31 : decode cX2_plain 31 = .ok (.dup, 1) := by decide +kernel
theorem dX2_plain_32 : decode cX2_plain 32 = .ok (.getfield 96, 3) := by decide +kernel
theorem dX2_plain_35 : decode cX2_plain 35 = .ok (.ldc2_w 38, 3) := by decide +kernel
theorem dX2_plain_38 : decode cX2_plain 38 = .ok (.ldiv, 1) := by decide +kernel
theorem dX2_plain_39 : decode cX2_plain 39 = .ok (.putfield 96, 3) := by decide +kernel
theorem dX2_plain_42 : decode cX2_plain 42 = .ok (.aload_n 0, 1) := by decide +kernel
theorem dX2_plain_43 : decode cX2_plain 43 = .ok (.dup, 1) := by decide +kernel
theorem dX2_plain_44 : decode cX2_plain 44 = .ok (.getfield 100, 3) := by decide +kernel
theorem dX2_plain_47 : decode cX2_plain 47 = .ok (.iconst 1, 1) := by decide +kernel
theorem dX2_plain_48 : decode cX2_plain 48 = .ok (.isub, 1) := by decide +kernel
theorem dX2_plain_49 : decode cX2_plain 49 = .ok (.putfield 100, 3) := by decide +kernel
theorem dX2_plain_52 : decode cX2_plain 52 = .ok (.goto (-42), 3) := by decide +kernel
theorem dX2_plain_55 : decode cX2_plain 55 = .ok (.aload_n 0, 1) := by decide +kernel
theorem dX2_plain_56 : decode cX2_plain 56 = .ok (.getfield 96, 3) := by decide +kernel
theorem dX2_plain_59 : decode cX2_plain 59 = .ok (.ldc2_w 58, 3) := by decide +kernel
theorem dX2_plain_62 : decode cX2_plain 62 = .ok (.ldc2_w 60, 3) := by decide +kernel
theorem dX2_plain_65 : decode cX2_plain 65 = .ok (.invokestatic 32, 3) := by decide +kernel
theorem dX2_plain_68 : decode cX2_plain 68 = .ok (.ifCond .eq 16, 3) := by decide +kernel
theorem dX2_plain_71 : decode cX2_plain 71 = .ok (.aload_n 0, 1) := by decide +kernel
theorem dX2_plain_72 : decode cX2_plain 72 = .ok (.getfield 100, 3) := by decide +kernel
theorem dX2_plain_75 : decode cX2_plain 75 = .ok (.bipush 20, 2) := by decide +kernel
theorem dX2_plain_77 : decode cX2_plain 77 = .ok (.if_icmp .gt 7, 3) := by decide +kernel
theorem dX2_plain_80 : decode cX2_plain 80 = .ok (.iconst 1, 1) := by decide +kernel
theorem dX2_plain_81 : decode cX2_plain 81 = .ok (.goto 4, 3) := by decide +kernel
theorem dX2_plain_84 : decode cX2_plain 84 = .ok (.iconst 0, 1) := by decide +kernel
theorem dX2_plain_85 : decode cX2_plain 85 = .ok (.ireturn, 1) := by decide +kernel
theorem dX2_isSum_0 : decode cX2_isSum 0 = .ok (.iload_n 0, 1) := by decide +kernel
theorem dX2_isSum_1 : decode cX2_isSum 1 = .ok (.i2l, 1) := by decide +kernel
theorem dX2_isSum_2 : decode cX2_isSum 2 = .ok (.lconst 0, 1) := by decide +kernel
theorem dX2_isSum_3 : decode cX2_isSum 3 = .ok (.ldc2_w 103, 3) := by decide +kernel
theorem dX2_isSum_6 : decode cX2_isSum 6 = .ok (.invokestatic 32, 3) := by decide +kernel
theorem dX2_isSum_9 : decode cX2_isSum 9 = .ok (.ireturn, 1) := by decide +kernel
theorem dX2_place_0 : decode cX2_place 0 = .ok (.bipush 13, 2) := by decide +kernel
theorem dX2_place_2 : decode cX2_place 2 = .ok (.iload_n 0, 1) := by decide +kernel
theorem dX2_place_3 : decode cX2_place 3 = .ok (.imul, 1) := by decide +kernel
theorem dX2_place_4 : decode cX2_place 4 = .ok (.iload_n 1, 1) := by decide +kernel
theorem dX2_place_5 : decode cX2_place 5 = .ok (.iadd, 1) := by decide +kernel
theorem dX2_place_6 : decode cX2_place 6 = .ok (.bipush 6, 2) := by decide +kernel
theorem dX2_place_8 : decode cX2_place 8 = .ok (.iadd, 1) := by decide +kernel
theorem dX2_place_9 : decode cX2_place 9 = .ok (.ireturn, 1) := by decide +kernel
theorem dX2_terms_0 : decode cX2_terms 0 = .ok (.iconst 0, 1) := by decide +kernel
theorem dX2_terms_1 : decode cX2_terms 1 = .ok (.istore_n 2, 1) := by decide +kernel
theorem dX2_terms_2 : decode cX2_terms 2 = .ok (.bipush (-6), 2) := by decide +kernel
theorem dX2_terms_4 : decode cX2_terms 4 = .ok (.istore_n 3, 1) := by decide +kernel
theorem dX2_terms_5 : decode cX2_terms 5 = .ok (.iload_n 3, 1) := by decide +kernel
theorem dX2_terms_6 : decode cX2_terms 6 = .ok (.bipush 6, 2) := by decide +kernel
theorem dX2_terms_8 : decode cX2_terms 8 = .ok (.if_icmp .gt 32, 3) := by decide +kernel
theorem dX2_terms_11 : decode cX2_terms 11 = .ok (.iload_n 2, 1) := by decide +kernel
theorem dX2_terms_12 : decode cX2_terms 12 = .ok (.aload_n 0, 1) := by decide +kernel
theorem dX2_terms_13 : decode cX2_terms 13 = .ok (.getfield 23, 3) := by decide +kernel
theorem dX2_terms_16 : decode cX2_terms 16 = .ok (.iload_n 1, 1) := by decide +kernel
theorem dX2_terms_17 : decode cX2_terms 17 = .ok (.iload_n 3, 1) := by decide +kernel
theorem dX2_terms_18 : decode cX2_terms 18 = .ok (.invokestatic 105, 3) := by decide +kernel
theorem dX2_terms_21 : decode cX2_terms 21 = .ok (.laload, 1) := by decide +kernel
theorem dX2_terms_22 : decode cX2_terms 22 = .ok (.lconst 0, 1) := by decide +kernel
theorem dX2_terms_23 : decode cX2_terms 23 = .ok (.lcmp, 1) := by decide +kernel
theorem dX2_terms_24 : decode cX2_terms 24 = .ok (.ifCond .eq 7, 3) := by decide +kernel
theorem dX2_terms_27 : decode cX2_terms 27 = .ok (.iconst 1, 1) := by decide +kernel
theorem dX2_terms_28 : decode cX2_terms 28 = .ok (.goto 4, 3) := by decide +kernel
theorem dX2_terms_31 : decode cX2_terms 31 = .ok (.iconst 0, 1) := by decide +kernel
theorem dX2_terms_32 : decode cX2_terms 32 = .ok (.iadd, 1) := by decide +kernel
theorem dX2_terms_33 : decode cX2_terms 33 = .ok (.istore_n 2, 1) := by decide +kernel
theorem dX2_terms_34 : decode cX2_terms 34 = .ok (.iinc 3 1, 3) := by decide +kernel
theorem dX2_terms_37 : decode cX2_terms 37 = .ok (.goto (-32), 3) := by decide +kernel
theorem dX2_terms_40 : decode cX2_terms 40 = .ok (.iload_n 2, 1) := by decide +kernel
theorem dX2_terms_41 : decode cX2_terms 41 = .ok (.ireturn, 1) := by decide +kernel
theorem dX2_copies_0 : decode cX2_copies 0 = .ok (.bipush (-6), 2) := by decide +kernel
theorem dX2_copies_2 : decode cX2_copies 2 = .ok (.istore_n 3, 1) := by decide +kernel
theorem dX2_copies_3 : decode cX2_copies 3 = .ok (.iload_n 3, 1) := by decide +kernel
theorem dX2_copies_4 : decode cX2_copies 4 = .ok (.bipush 6, 2) := by decide +kernel
theorem dX2_copies_6 : decode cX2_copies 6 = .ok (.if_icmp .gt 65, 3) := by decide +kernel
theorem dX2_copies_9 : decode cX2_copies 9 = .ok (.aload_n 0, 1) := by decide +kernel
theorem dX2_copies_10 : decode cX2_copies 10 = .ok (.getfield 23, 3) := by decide +kernel
theorem dX2_copies_13 : decode cX2_copies 13 = .ok (.iload_n 1, 1) := by decide +kernel
theorem dX2_copies_14 : decode cX2_copies 14 = .ok (.iload_n 3, 1) := by decide +kernel
theorem dX2_copies_15 : decode cX2_copies 15 = .ok (.invokestatic 105, 3) := by decide +kernel
theorem dX2_copies_18 : decode cX2_copies 18 = .ok (.iload_n 2, 1) := by decide +kernel
theorem dX2_copies_19 : decode cX2_copies 19 = .ok (.ifCond .ge 7, 3) := by decide +kernel
theorem dX2_copies_22 : decode cX2_copies 22 = .ok (.lconst 0, 1) := by decide +kernel
theorem dX2_copies_23 : decode cX2_copies 23 = .ok (.goto 13, 3) := by decide +kernel
theorem dX2_copies_26 : decode cX2_copies 26 = .ok (.aload_n 0, 1) := by decide +kernel
theorem dX2_copies_27 : decode cX2_copies 27 = .ok (.getfield 23, 3) := by decide +kernel
theorem dX2_copies_30 : decode cX2_copies 30 = .ok (.iload_n 2, 1) := by decide +kernel
theorem dX2_copies_31 : decode cX2_copies 31 = .ok (.iload_n 3, 1) := by decide +kernel
theorem dX2_copies_32 : decode cX2_copies 32 = .ok (.invokestatic 105, 3) := by decide +kernel
theorem dX2_copies_35 : decode cX2_copies 35 = .ok (.laload, 1) := by decide +kernel
theorem dX2_copies_36 : decode cX2_copies 36 = .ok (.lastore, 1) := by decide +kernel
theorem dX2_copies_37 : decode cX2_copies 37 = .ok (.aload_n 0, 1) := by decide +kernel
theorem dX2_copies_38 : decode cX2_copies 38 = .ok (.getfield 27, 3) := by decide +kernel
theorem dX2_copies_41 : decode cX2_copies 41 = .ok (.iload_n 1, 1) := by decide +kernel
theorem dX2_copies_42 : decode cX2_copies 42 = .ok (.iload_n 3, 1) := by decide +kernel
theorem dX2_copies_43 : decode cX2_copies 43 = .ok (.invokestatic 105, 3) := by decide +kernel
theorem dX2_copies_46 : decode cX2_copies 46 = .ok (.iload_n 2, 1) := by decide +kernel
theorem dX2_copies_47 : decode cX2_copies 47 = .ok (.ifCond .ge 7, 3) := by decide +kernel
theorem dX2_copies_50 : decode cX2_copies 50 = .ok (.iconst 0, 1) := by decide +kernel
theorem dX2_copies_51 : decode cX2_copies 51 = .ok (.goto 13, 3) := by decide +kernel
theorem dX2_copies_54 : decode cX2_copies 54 = .ok (.aload_n 0, 1) := by decide +kernel
theorem dX2_copies_55 : decode cX2_copies 55 = .ok (.getfield 27, 3) := by decide +kernel
theorem dX2_copies_58 : decode cX2_copies 58 = .ok (.iload_n 2, 1) := by decide +kernel
theorem dX2_copies_59 : decode cX2_copies 59 = .ok (.iload_n 3, 1) := by decide +kernel
theorem dX2_copies_60 : decode cX2_copies 60 = .ok (.invokestatic 105, 3) := by decide +kernel
theorem dX2_copies_63 : decode cX2_copies 63 = .ok (.iaload, 1) := by decide +kernel
theorem dX2_copies_64 : decode cX2_copies 64 = .ok (.iastore, 1) := by decide +kernel
theorem dX2_copies_65 : decode cX2_copies 65 = .ok (.iinc 3 1, 3) := by decide +kernel
theorem dX2_copies_68 : decode cX2_copies 68 = .ok (.goto (-65), 3) := by decide +kernel
theorem dX2_copies_71 : decode cX2_copies 71 = .ok (.return_, 1) := by decide +kernel
theorem dX2_puts_0 : decode cX2_puts 0 = .ok (.iload_n 2, 1) := by decide +kernel
theorem dX2_puts_1 : decode cX2_puts 1 = .ok (.i2l, 1) := by decide +kernel
theorem dX2_puts_2 : decode cX2_puts 2 = .ok (.ldc2_w 108, 3) := by decide +kernel
theorem dX2_puts_5 : decode cX2_puts 5 = .ok (.ldc2_w 110, 3) := by decide +kernel
theorem dX2_puts_8 : decode cX2_puts 8 = .ok (.invokestatic 32, 3) := by decide +kernel
theorem dX2_puts_11 : decode cX2_puts 11 = .ok (.ifCond .ne 5, 3) := by decide +kernel
theorem dX2_puts_14 : decode cX2_puts 14 = .ok (.iconst 0, 1) := by decide +kernel
theorem dX2_puts_15 : decode cX2_puts 15 = .ok (.ireturn, 1) := by decide +kernel
theorem dX2_puts_16 : decode cX2_puts 16 = .ok (.iload_n 1, 1) := by decide +kernel
theorem dX2_puts_17 : decode cX2_puts 17 = .ok (.iload_n 2, 1) := by decide +kernel
theorem dX2_puts_18 : decode cX2_puts 18 = .ok (.invokestatic 105, 3) := by decide +kernel
theorem dX2_puts_21 : decode cX2_puts 21 = .ok (.istore 6, 2) := by decide +kernel
theorem dX2_puts_23 : decode cX2_puts 23 = .ok (.aload_n 0, 1) := by decide +kernel
theorem dX2_puts_24 : decode cX2_puts 24 = .ok (.getfield 27, 3) := by decide +kernel
theorem dX2_puts_27 : decode cX2_puts 27 = .ok (.iload 6, 2) := by decide +kernel
theorem dX2_puts_29 : decode cX2_puts 29 = .ok (.iaload, 1) := by decide +kernel
theorem dX2_puts_30 : decode cX2_puts 30 = .ok (.iload 5, 2) := by decide +kernel
theorem dX2_puts_32 : decode cX2_puts 32 = .ok (.if_icmp .le 13, 3) := by decide +kernel
theorem dX2_puts_35 : decode cX2_puts 35 = .ok (.aload_n 0, 1) := by decide +kernel
theorem dX2_puts_36 : decode cX2_puts 36 = .ok (.getfield 27, 3) := by decide +kernel
theorem dX2_puts_39 : decode cX2_puts 39 = .ok (.iload 6, 2) := by decide +kernel
theorem dX2_puts_41 : decode cX2_puts 41 = .ok (.iaload, 1) := by decide +kernel
theorem dX2_puts_42 : decode cX2_puts 42 = .ok (.goto 5, 3) := by decide +kernel
theorem dX2_puts_45 : decode cX2_puts 45 = .ok (.iload 5, 2) := by decide +kernel
theorem dX2_puts_47 : decode cX2_puts 47 = .ok (.istore 7, 2) := by decide +kernel
theorem dX2_puts_49 : decode cX2_puts 49 = .ok (.aload_n 0, 1) := by decide +kernel
theorem dX2_puts_50 : decode cX2_puts 50 = .ok (.aload_n 0, 1) := by decide +kernel
theorem dX2_puts_51 : decode cX2_puts 51 = .ok (.getfield 23, 3) := by decide +kernel
theorem dX2_puts_54 : decode cX2_puts 54 = .ok (.iload 6, 2) := by decide +kernel
theorem dX2_puts_56 : decode cX2_puts 56 = .ok (.laload, 1) := by decide +kernel
theorem dX2_puts_57 : decode cX2_puts 57 = .ok (.iload 7, 2) := by decide +kernel
theorem dX2_puts_59 : decode cX2_puts 59 = .ok (.aload_n 0, 1) := by decide +kernel
theorem dX2_puts_60 : decode cX2_puts 60 = .ok (.getfield 27, 3) := by decide +kernel
theorem dX2_puts_63 : decode cX2_puts 63 = .ok (.iload 6, 2) := by decide +kernel
theorem dX2_puts_65 : decode cX2_puts 65 = .ok (.iaload, 1) := by decide +kernel
theorem dX2_puts_66 : decode cX2_puts 66 = .ok (.isub, 1) := by decide +kernel
theorem dX2_puts_67 : decode cX2_puts 67 = .ok (.lshl, 1) := by decide +kernel
theorem dX2_puts_68 : decode cX2_puts 68 = .ok (.lload_n 3, 1) := by decide +kernel
theorem dX2_puts_69 : decode cX2_puts 69 = .ok (.iload 7, 2) := by decide +kernel
theorem dX2_puts_71 : decode cX2_puts 71 = .ok (.iload 5, 2) := by decide +kernel
theorem dX2_puts_73 : decode cX2_puts 73 = .ok (.isub, 1) := by decide +kernel
theorem dX2_puts_74 : decode cX2_puts 74 = .ok (.lshl, 1) := by decide +kernel
theorem dX2_puts_75 : decode cX2_puts 75 = .ok (.ladd, 1) := by decide +kernel
theorem dX2_puts_76 : decode cX2_puts 76 = .ok (.iload 7, 2) := by decide +kernel
theorem dX2_puts_78 : decode cX2_puts 78 = .ok (.invokevirtual 112, 3) := by decide +kernel
theorem dX2_puts_81 : decode cX2_puts 81 = .ok (.istore 8, 2) := by decide +kernel
theorem dX2_puts_83 : decode cX2_puts 83 = .ok (.iload 8, 2) := by decide +kernel
theorem dX2_puts_85 : decode cX2_puts 85 = .ok (.ifCond .eq 38, 3) := by decide +kernel
theorem dX2_puts_88 : decode cX2_puts 88 = .ok (.aload_n 0, 1) := by decide +kernel
theorem dX2_puts_89 : decode cX2_puts 89 = .ok (.getfield 23, 3) := by decide +kernel
theorem dX2_puts_92 : decode cX2_puts 92 = .ok (.iload 6, 2) := by decide +kernel
theorem dX2_puts_94 : decode cX2_puts 94 = .ok (.aload_n 0, 1) := by decide +kernel
theorem dX2_puts_95 : decode cX2_puts 95 = .ok (.getfield 96, 3) := by decide +kernel
theorem dX2_puts_98 : decode cX2_puts 98 = .ok (.lastore, 1) := by decide +kernel
theorem dX2_puts_99 : decode cX2_puts 99 = .ok (.aload_n 0, 1) := by decide +kernel
theorem dX2_puts_100 : decode cX2_puts 100 = .ok (.getfield 27, 3) := by decide +kernel
theorem dX2_puts_103 : decode cX2_puts 103 = .ok (.iload 6, 2) := by decide +kernel
theorem dX2_puts_105 : decode cX2_puts 105 = .ok (.aload_n 0, 1) := by decide +kernel
theorem dX2_puts_106 : decode cX2_puts 106 = .ok (.getfield 96, 3) := by decide +kernel
theorem dX2_puts_109 : decode cX2_puts 109 = .ok (.lconst 0, 1) := by decide +kernel
theorem dX2_puts_110 : decode cX2_puts 110 = .ok (.lcmp, 1) := by decide +kernel
theorem dX2_puts_111 : decode cX2_puts 111 = .ok (.ifCond .ne 7, 3) := by decide +kernel
theorem dX2_puts_114 : decode cX2_puts 114 = .ok (.iconst 0, 1) := by decide +kernel
theorem dX2_puts_115 : decode cX2_puts 115 = .ok (.goto 7, 3) := by decide +kernel
theorem dX2_puts_118 : decode cX2_puts 118 = .ok (.aload_n 0, 1) := by decide +kernel
theorem dX2_puts_119 : decode cX2_puts 119 = .ok (.getfield 100, 3) := by decide +kernel
theorem dX2_puts_122 : decode cX2_puts 122 = .ok (.iastore, 1) := by decide +kernel
theorem dX2_puts_123 : decode cX2_puts 123 = .ok (.iload 8, 2) := by decide +kernel
theorem dX2_puts_125 : decode cX2_puts 125 = .ok (.ireturn, 1) := by decide +kernel
theorem dX2_multiplies_0 : decode cX2_multiplies 0 = .ok (.iload_n 2, 1) := by decide +kernel
theorem dX2_multiplies_1 : decode cX2_multiplies 1 = .ok (.i2l, 1) := by decide +kernel
theorem dX2_multiplies_2 : decode cX2_multiplies 2 = .ok (.ldc2_w 108, 3) := by decide +kernel
theorem dX2_multiplies_5 : decode cX2_multiplies 5 = .ok (.ldc2_w 110, 3) := by decide +kernel
theorem dX2_multiplies_8 : decode cX2_multiplies 8 = .ok (.invokestatic 32, 3) := by decide +kernel
theorem dX2_multiplies_11 : decode cX2_multiplies 11 = .ok (.ifCond .eq 19, 3) := by decide +kernel
theorem dX2_multiplies_14 : decode cX2_multiplies 14 = .ok (.aload_n 0, 1) := by decide +kernel
theorem dX2_multiplies_15 : decode cX2_multiplies 15 = .ok (.lload_n 3, 1) := by decide +kernel
theorem dX2_multiplies_16 : decode cX2_multiplies 16 = .ok (.lload 6, 2) := by decide +kernel
theorem dX2_multiplies_18 : decode cX2_multiplies 18 = .ok (.lmul, 1) := by decide +kernel
theorem dX2_multiplies_19 : decode cX2_multiplies 19 = .ok (.iload 5, 2) := by decide +kernel
theorem dX2_multiplies_21 : decode cX2_multiplies 21 = .ok (.iload 8, 2) := by decide +kernel
theorem dX2_multiplies_23 : decode cX2_multiplies 23 = .ok (.iadd, 1) := by decide +kernel
theorem dX2_multiplies_24 : decode cX2_multiplies 24 = .ok (.invokevirtual 112, 3) := by decide +kernel
theorem dX2_multiplies_27 : decode cX2_multiplies 27 = .ok (.ifCond .ne 5, 3) := by decide +kernel
theorem dX2_multiplies_30 : decode cX2_multiplies 30 = .ok (.iconst 0, 1) := by decide +kernel
theorem dX2_multiplies_31 : decode cX2_multiplies 31 = .ok (.ireturn, 1) := by decide +kernel
theorem dX2_multiplies_32 : decode cX2_multiplies 32 = .ok (.aload_n 0, 1) := by decide +kernel
theorem dX2_multiplies_33 : decode cX2_multiplies 33 = .ok (.iload_n 1, 1) := by decide +kernel
theorem dX2_multiplies_34 : decode cX2_multiplies 34 = .ok (.iload_n 2, 1) := by decide +kernel
theorem dX2_multiplies_35 : decode cX2_multiplies 35 = .ok (.lload 9, 2) := by decide +kernel
theorem dX2_multiplies_37 : decode cX2_multiplies 37 = .ok (.aload_n 0, 1) := by decide +kernel
theorem dX2_multiplies_38 : decode cX2_multiplies 38 = .ok (.getfield 96, 3) := by decide +kernel
theorem dX2_multiplies_41 : decode cX2_multiplies 41 = .ok (.lmul, 1) := by decide +kernel
theorem dX2_multiplies_42 : decode cX2_multiplies 42 = .ok (.aload_n 0, 1) := by decide +kernel
theorem dX2_multiplies_43 : decode cX2_multiplies 43 = .ok (.getfield 100, 3) := by decide +kernel
theorem dX2_multiplies_46 : decode cX2_multiplies 46 = .ok (.invokevirtual 115, 3) := by decide +kernel
theorem dX2_multiplies_49 : decode cX2_multiplies 49 = .ok (.ireturn, 1) := by decide +kernel
theorem dX2_term_0 : decode cX2_term 0 = .ok (.iload_n 1, 1) := by decide +kernel
theorem dX2_term_1 : decode cX2_term 1 = .ok (.invokestatic 119, 3) := by decide +kernel
theorem dX2_term_4 : decode cX2_term 4 = .ok (.ifCond .eq 44, 3) := by decide +kernel
theorem dX2_term_7 : decode cX2_term 7 = .ok (.iload_n 2, 1) := by decide +kernel
theorem dX2_term_8 : decode cX2_term 8 = .ok (.i2l, 1) := by decide +kernel
theorem dX2_term_9 : decode cX2_term 9 = .ok (.ldc2_w 108, 3) := by decide +kernel
theorem dX2_term_12 : decode cX2_term 12 = .ok (.ldc2_w 110, 3) := by decide +kernel
theorem dX2_term_15 : decode cX2_term 15 = .ok (.invokestatic 32, 3) := by decide +kernel
theorem dX2_term_18 : decode cX2_term 18 = .ok (.ifCond .eq 30, 3) := by decide +kernel
theorem dX2_term_21 : decode cX2_term 21 = .ok (.iload_n 3, 1) := by decide +kernel
theorem dX2_term_22 : decode cX2_term 22 = .ok (.i2l, 1) := by decide +kernel
theorem dX2_term_23 : decode cX2_term 23 = .ok (.ldc2_w 58, 3) := by decide +kernel
theorem dX2_term_26 : decode cX2_term 26 = .ok (.ldc2_w 60, 3) := by decide +kernel
theorem dX2_term_29 : decode cX2_term 29 = .ok (.invokestatic 32, 3) := by decide +kernel
theorem dX2_term_32 : decode cX2_term 32 = .ok (.ifCond .eq 16, 3) := by decide +kernel
theorem dX2_term_35 : decode cX2_term 35 = .ok (.iload 4, 2) := by decide +kernel
theorem dX2_term_37 : decode cX2_term 37 = .ok (.i2l, 1) := by decide +kernel
theorem dX2_term_38 : decode cX2_term 38 = .ok (.lconst 0, 1) := by decide +kernel
theorem dX2_term_39 : decode cX2_term 39 = .ok (.ldc2_w 62, 3) := by decide +kernel
theorem dX2_term_42 : decode cX2_term 42 = .ok (.invokestatic 32, 3) := by decide +kernel
theorem dX2_term_45 : decode cX2_term 45 = .ok (.ifCond .ne 5, 3) := by decide +kernel
theorem dX2_term_48 : decode cX2_term 48 = .ok (.iconst (-1), 1) := by decide +kernel
theorem dX2_term_49 : decode cX2_term 49 = .ok (.ireturn, 1) := by decide +kernel
theorem dX2_term_50 : decode cX2_term 50 = .ok (.aload_n 0, 1) := by decide +kernel
theorem dX2_term_51 : decode cX2_term 51 = .ok (.iload_n 3, 1) := by decide +kernel
theorem dX2_term_52 : decode cX2_term 52 = .ok (.i2l, 1) := by decide +kernel
theorem dX2_term_53 : decode cX2_term 53 = .ok (.iload 4, 2) := by decide +kernel
theorem dX2_term_55 : decode cX2_term 55 = .ok (.invokevirtual 112, 3) := by decide +kernel
theorem dX2_term_58 : decode cX2_term 58 = .ok (.istore 5, 2) := by decide +kernel
theorem dX2_term_60 : decode cX2_term 60 = .ok (.aload_n 0, 1) := by decide +kernel
theorem dX2_term_61 : decode cX2_term 61 = .ok (.getfield 23, 3) := by decide +kernel
theorem dX2_term_64 : decode cX2_term 64 = .ok (.iload_n 1, 1) := by decide +kernel
theorem dX2_term_65 : decode cX2_term 65 = .ok (.iload_n 2, 1) := by decide +kernel
theorem dX2_term_66 : decode cX2_term 66 = .ok (.invokestatic 105, 3) := by decide +kernel
theorem dX2_term_69 : decode cX2_term 69 = .ok (.aload_n 0, 1) := by decide +kernel
theorem dX2_term_70 : decode cX2_term 70 = .ok (.getfield 96, 3) := by decide +kernel
theorem dX2_term_73 : decode cX2_term 73 = .ok (.lastore, 1) := by decide +kernel
theorem dX2_term_74 : decode cX2_term 74 = .ok (.aload_n 0, 1) := by decide +kernel
theorem dX2_term_75 : decode cX2_term 75 = .ok (.getfield 27, 3) := by decide +kernel
theorem dX2_term_78 : decode cX2_term 78 = .ok (.iload_n 1, 1) := by decide +kernel
theorem dX2_term_79 : decode cX2_term 79 = .ok (.iload_n 2, 1) := by decide +kernel
theorem dX2_term_80 : decode cX2_term 80 = .ok (.invokestatic 105, 3) := by decide +kernel
theorem dX2_term_83 : decode cX2_term 83 = .ok (.aload_n 0, 1) := by decide +kernel
theorem dX2_term_84 : decode cX2_term 84 = .ok (.getfield 96, 3) := by decide +kernel
theorem dX2_term_87 : decode cX2_term 87 = .ok (.lconst 0, 1) := by decide +kernel
theorem dX2_term_88 : decode cX2_term 88 = .ok (.lcmp, 1) := by decide +kernel
theorem dX2_term_89 : decode cX2_term 89 = .ok (.ifCond .ne 7, 3) := by decide +kernel
theorem dX2_term_92 : decode cX2_term 92 = .ok (.iconst 0, 1) := by decide +kernel
theorem dX2_term_93 : decode cX2_term 93 = .ok (.goto 7, 3) := by decide +kernel
theorem dX2_term_96 : decode cX2_term 96 = .ok (.aload_n 0, 1) := by decide +kernel
theorem dX2_term_97 : decode cX2_term 97 = .ok (.getfield 100, 3) := by decide +kernel
theorem dX2_term_100 : decode cX2_term 100 = .ok (.iastore, 1) := by decide +kernel
theorem dX2_term_101 : decode cX2_term 101 = .ok (.aload_n 0, 1) := by decide +kernel
theorem dX2_term_102 : decode cX2_term 102 = .ok (.iload_n 1, 1) := by decide +kernel
theorem dX2_term_103 : decode cX2_term 103 = .ok (.invokevirtual 122, 3) := by decide +kernel
theorem dX2_term_106 : decode cX2_term 106 = .ok (.ireturn, 1) := by decide +kernel
theorem dX2_told_0 : decode cX2_told 0 = .ok (.iload_n 1, 1) := by decide +kernel
theorem dX2_told_1 : decode cX2_told 1 = .ok (.invokestatic 119, 3) := by decide +kernel
theorem dX2_told_4 : decode cX2_told 4 = .ok (.ifCond .eq 19, 3) := by decide +kernel
theorem dX2_told_7 : decode cX2_told 7 = .ok (.iload_n 2, 1) := by decide +kernel
theorem dX2_told_8 : decode cX2_told 8 = .ok (.ifCond .lt 15, 3) := by decide +kernel
theorem dX2_told_11 : decode cX2_told 11 = .ok (.iload_n 3, 1) := by decide +kernel
theorem dX2_told_12 : decode cX2_told 12 = .ok (.i2l, 1) := by decide +kernel
theorem dX2_told_13 : decode cX2_told 13 = .ok (.lconst 0, 1) := by decide +kernel
theorem dX2_told_14 : decode cX2_told 14 = .ok (.ldc2_w 38, 3) := by decide +kernel
theorem dX2_told_17 : decode cX2_told 17 = .ok (.invokestatic 32, 3) := by decide +kernel
theorem dX2_told_20 : decode cX2_told 20 = .ok (.ifCond .ne 6, 3) := by decide +kernel
theorem dX2_told_23 : decode cX2_told 23 = .ok (.ldc 126, 2) := by decide +kernel
theorem dX2_told_25 : decode cX2_told 25 = .ok (.ireturn, 1) := by decide +kernel
theorem dX2_told_26 : decode cX2_told 26 = .ok (.iload_n 2, 1) := by decide +kernel
theorem dX2_told_27 : decode cX2_told 27 = .ok (.istore 4, 2) := by decide +kernel
theorem dX2_told_29 : decode cX2_told 29 = .ok (.bipush 6, 2) := by decide +kernel
theorem dX2_told_31 : decode cX2_told 31 = .ok (.istore 5, 2) := by decide +kernel
theorem dX2_told_33 : decode cX2_told 33 = .ok (.iload 5, 2) := by decide +kernel
theorem dX2_told_35 : decode cX2_told 35 = .ok (.bipush (-6), 2) := by decide +kernel
theorem dX2_told_37 : decode cX2_told 37 = .ok (.if_icmp .lt 70, 3) := by decide +kernel
theorem dX2_told_40 : decode cX2_told 40 = .ok (.iload_n 1, 1) := by decide +kernel
theorem dX2_told_41 : decode cX2_told 41 = .ok (.iload 5, 2) := by decide +kernel
theorem dX2_told_43 : decode cX2_told 43 = .ok (.invokestatic 105, 3) := by decide +kernel
theorem dX2_told_46 : decode cX2_told 46 = .ok (.istore 6, 2) := by decide +kernel
theorem dX2_told_48 : decode cX2_told 48 = .ok (.aload_n 0, 1) := by decide +kernel
theorem dX2_told_49 : decode cX2_told 49 = .ok (.getfield 23, 3) := by decide +kernel
theorem dX2_told_52 : decode cX2_told 52 = .ok (.iload 6, 2) := by decide +kernel
theorem dX2_told_54 : decode cX2_told 54 = .ok (.laload, 1) := by decide +kernel
theorem dX2_told_55 : decode cX2_told 55 = .ok (.lconst 0, 1) := by decide +kernel
theorem dX2_told_56 : decode cX2_told 56 = .ok (.lcmp, 1) := by decide +kernel
theorem dX2_told_57 : decode cX2_told 57 = .ok (.ifCond .eq 44, 3) := by decide +kernel
theorem dX2_told_60 : decode cX2_told 60 = .ok (.iload 4, 2) := by decide +kernel
theorem dX2_told_62 : decode cX2_told 62 = .ok (.ifCond .ne 36, 3) := by decide +kernel
theorem dX2_told_65 : decode cX2_told 65 = .ok (.iload_n 3, 1) := by decide +kernel
theorem dX2_told_66 : decode cX2_told 66 = .ok (.ifCond .ne 8, 3) := by decide +kernel
theorem dX2_told_69 : decode cX2_told 69 = .ok (.iload 5, 2) := by decide +kernel
theorem dX2_told_71 : decode cX2_told 71 = .ok (.goto 26, 3) := by decide +kernel
theorem dX2_told_74 : decode cX2_told 74 = .ok (.iload_n 3, 1) := by decide +kernel
theorem dX2_told_75 : decode cX2_told 75 = .ok (.iconst 1, 1) := by decide +kernel
theorem dX2_told_76 : decode cX2_told 76 = .ok (.if_icmp .ne 14, 3) := by decide +kernel
theorem dX2_told_79 : decode cX2_told 79 = .ok (.aload_n 0, 1) := by decide +kernel
theorem dX2_told_80 : decode cX2_told 80 = .ok (.getfield 23, 3) := by decide +kernel
theorem dX2_told_83 : decode cX2_told 83 = .ok (.iload 6, 2) := by decide +kernel
theorem dX2_told_85 : decode cX2_told 85 = .ok (.laload, 1) := by decide +kernel
theorem dX2_told_86 : decode cX2_told 86 = .ok (.l2i, 1) := by decide +kernel
theorem dX2_told_87 : decode cX2_told 87 = .ok (.goto 10, 3) := by decide +kernel
theorem dX2_told_90 : decode cX2_told 90 = .ok (.aload_n 0, 1) := by decide +kernel
theorem dX2_told_91 : decode cX2_told 91 = .ok (.getfield 27, 3) := by decide +kernel
theorem dX2_told_94 : decode cX2_told 94 = .ok (.iload 6, 2) := by decide +kernel
theorem dX2_told_96 : decode cX2_told 96 = .ok (.iaload, 1) := by decide +kernel
theorem dX2_told_97 : decode cX2_told 97 = .ok (.ireturn, 1) := by decide +kernel
theorem dX2_told_98 : decode cX2_told 98 = .ok (.iinc 4 (-1), 3) := by decide +kernel
theorem dX2_told_101 : decode cX2_told 101 = .ok (.iinc 5 (-1), 3) := by decide +kernel
theorem dX2_told_104 : decode cX2_told 104 = .ok (.goto (-71), 3) := by decide +kernel
theorem dX2_told_107 : decode cX2_told 107 = .ok (.ldc 127, 2) := by decide +kernel
theorem dX2_told_109 : decode cX2_told 109 = .ok (.ireturn, 1) := by decide +kernel
theorem dX2_adds_0 : decode cX2_adds 0 = .ok (.aload_n 0, 1) := by decide +kernel
theorem dX2_adds_1 : decode cX2_adds 1 = .ok (.bipush 9, 2) := by decide +kernel
theorem dX2_adds_3 : decode cX2_adds 3 = .ok (.iload_n 1, 1) := by decide +kernel
theorem dX2_adds_4 : decode cX2_adds 4 = .ok (.invokevirtual 128, 3) := by decide +kernel
theorem dX2_adds_7 : decode cX2_adds 7 = .ok (.iconst 1, 1) := by decide +kernel
theorem dX2_adds_8 : decode cX2_adds 8 = .ok (.istore 5, 2) := by decide +kernel
theorem dX2_adds_10 : decode cX2_adds 10 = .ok (.bipush 6, 2) := by decide +kernel
theorem dX2_adds_12 : decode cX2_adds 12 = .ok (.istore 6, 2) := by decide +kernel
theorem dX2_adds_14 : decode cX2_adds 14 = .ok (.iload 6, 2) := by decide +kernel
theorem dX2_adds_16 : decode cX2_adds 16 = .ok (.bipush (-6), 2) := by decide +kernel
theorem dX2_adds_18 : decode cX2_adds 18 = .ok (.if_icmp .lt 68, 3) := by decide +kernel
theorem dX2_adds_21 : decode cX2_adds 21 = .ok (.iload 5, 2) := by decide +kernel
theorem dX2_adds_23 : decode cX2_adds 23 = .ok (.ifCond .eq 63, 3) := by decide +kernel
theorem dX2_adds_26 : decode cX2_adds 26 = .ok (.iload_n 2, 1) := by decide +kernel
theorem dX2_adds_27 : decode cX2_adds 27 = .ok (.iload 6, 2) := by decide +kernel
theorem dX2_adds_29 : decode cX2_adds 29 = .ok (.invokestatic 105, 3) := by decide +kernel
theorem dX2_adds_32 : decode cX2_adds 32 = .ok (.istore 7, 2) := by decide +kernel
theorem dX2_adds_34 : decode cX2_adds 34 = .ok (.aload_n 0, 1) := by decide +kernel
theorem dX2_adds_35 : decode cX2_adds 35 = .ok (.getfield 23, 3) := by decide +kernel
theorem dX2_adds_38 : decode cX2_adds 38 = .ok (.iload 7, 2) := by decide +kernel
theorem dX2_adds_40 : decode cX2_adds 40 = .ok (.laload, 1) := by decide +kernel
theorem dX2_adds_41 : decode cX2_adds 41 = .ok (.lconst 0, 1) := by decide +kernel
theorem dX2_adds_42 : decode cX2_adds 42 = .ok (.lcmp, 1) := by decide +kernel
theorem dX2_adds_43 : decode cX2_adds 43 = .ok (.ifCond .eq 30, 3) := by decide +kernel
theorem dX2_adds_46 : decode cX2_adds 46 = .ok (.aload_n 0, 1) := by decide +kernel
theorem dX2_adds_47 : decode cX2_adds 47 = .ok (.bipush 9, 2) := by decide +kernel
theorem dX2_adds_49 : decode cX2_adds 49 = .ok (.iload 6, 2) := by decide +kernel
theorem dX2_adds_51 : decode cX2_adds 51 = .ok (.lload_n 3, 1) := by decide +kernel
theorem dX2_adds_52 : decode cX2_adds 52 = .ok (.aload_n 0, 1) := by decide +kernel
theorem dX2_adds_53 : decode cX2_adds 53 = .ok (.getfield 23, 3) := by decide +kernel
theorem dX2_adds_56 : decode cX2_adds 56 = .ok (.iload 7, 2) := by decide +kernel
theorem dX2_adds_58 : decode cX2_adds 58 = .ok (.laload, 1) := by decide +kernel
theorem dX2_adds_59 : decode cX2_adds 59 = .ok (.lmul, 1) := by decide +kernel
theorem dX2_adds_60 : decode cX2_adds 60 = .ok (.aload_n 0, 1) := by decide +kernel
theorem dX2_adds_61 : decode cX2_adds 61 = .ok (.getfield 27, 3) := by decide +kernel
theorem dX2_adds_64 : decode cX2_adds 64 = .ok (.iload 7, 2) := by decide +kernel
theorem dX2_adds_66 : decode cX2_adds 66 = .ok (.iaload, 1) := by decide +kernel
theorem dX2_adds_67 : decode cX2_adds 67 = .ok (.invokevirtual 115, 3) := by decide +kernel
theorem dX2_adds_70 : decode cX2_adds 70 = .ok (.ifCond .eq 7, 3) := by decide +kernel
theorem dX2_adds_73 : decode cX2_adds 73 = .ok (.iconst 1, 1) := by decide +kernel
theorem dX2_adds_74 : decode cX2_adds 74 = .ok (.goto 4, 3) := by decide +kernel
theorem dX2_adds_77 : decode cX2_adds 77 = .ok (.iconst 0, 1) := by decide +kernel
theorem dX2_adds_78 : decode cX2_adds 78 = .ok (.istore 5, 2) := by decide +kernel
theorem dX2_adds_80 : decode cX2_adds 80 = .ok (.iinc 6 (-1), 3) := by decide +kernel
theorem dX2_adds_83 : decode cX2_adds 83 = .ok (.goto (-69), 3) := by decide +kernel
theorem dX2_adds_86 : decode cX2_adds 86 = .ok (.iload 5, 2) := by decide +kernel
theorem dX2_adds_88 : decode cX2_adds 88 = .ok (.ireturn, 1) := by decide +kernel
theorem dX2_products_0 : decode cX2_products 0 = .ok (.aload_n 0, 1) := by decide +kernel
theorem dX2_products_1 : decode cX2_products 1 = .ok (.bipush 9, 2) := by decide +kernel
theorem dX2_products_3 : decode cX2_products 3 = .ok (.iconst (-1), 1) := by decide +kernel
theorem dX2_products_4 : decode cX2_products 4 = .ok (.invokevirtual 128, 3) := by decide +kernel
theorem dX2_products_7 : decode cX2_products 7 = .ok (.iconst 1, 1) := by decide +kernel
theorem dX2_products_8 : decode cX2_products 8 = .ok (.istore_n 3, 1) := by decide +kernel
theorem dX2_products_9 : decode cX2_products 9 = .ok (.bipush 6, 2) := by decide +kernel
theorem dX2_products_11 : decode cX2_products 11 = .ok (.istore 4, 2) := by decide +kernel
theorem dX2_products_13 : decode cX2_products 13 = .ok (.iload 4, 2) := by decide +kernel
theorem dX2_products_15 : decode cX2_products 15 = .ok (.bipush (-6), 2) := by decide +kernel
theorem dX2_products_17 : decode cX2_products 17 = .ok (.if_icmp .lt 123, 3) := by decide +kernel
theorem dX2_products_20 : decode cX2_products 20 = .ok (.bipush 6, 2) := by decide +kernel
theorem dX2_products_22 : decode cX2_products 22 = .ok (.istore 5, 2) := by decide +kernel
theorem dX2_products_24 : decode cX2_products 24 = .ok (.iload 5, 2) := by decide +kernel
theorem dX2_products_26 : decode cX2_products 26 = .ok (.bipush (-6), 2) := by decide +kernel
theorem dX2_products_28 : decode cX2_products 28 = .ok (.if_icmp .lt 106, 3) := by decide +kernel
theorem dX2_products_31 : decode cX2_products 31 = .ok (.aload_n 0, 1) := by decide +kernel
theorem dX2_products_32 : decode cX2_products 32 = .ok (.getfield 23, 3) := by decide +kernel
theorem dX2_products_35 : decode cX2_products 35 = .ok (.iload_n 1, 1) := by decide +kernel
theorem dX2_products_36 : decode cX2_products 36 = .ok (.iload 4, 2) := by decide +kernel
theorem dX2_products_38 : decode cX2_products 38 = .ok (.invokestatic 105, 3) := by decide +kernel
theorem dX2_products_41 : decode cX2_products 41 = .ok (.laload, 1) := by decide +kernel
theorem dX2_products_42 : decode cX2_products 42 = .ok (.lconst 0, 1) := by decide +kernel
theorem dX2_products_43 : decode cX2_products 43 = .ok (.lcmp, 1) := by decide +kernel
theorem dX2_products_44 : decode cX2_products 44 = .ok (.ifCond .eq 90, 3) := by decide +kernel
theorem dX2_products_47 : decode cX2_products 47 = .ok (.iload_n 1, 1) := by decide +kernel
theorem dX2_products_48 : decode cX2_products 48 = .ok (.iload 4, 2) := by decide +kernel
theorem dX2_products_50 : decode cX2_products 50 = .ok (.invokestatic 105, 3) := by decide +kernel
theorem dX2_products_53 : decode cX2_products 53 = .ok (.istore 6, 2) := by decide +kernel
theorem dX2_products_55 : decode cX2_products 55 = .ok (.iload_n 2, 1) := by decide +kernel
theorem dX2_products_56 : decode cX2_products 56 = .ok (.iload 5, 2) := by decide +kernel
theorem dX2_products_58 : decode cX2_products 58 = .ok (.invokestatic 105, 3) := by decide +kernel
theorem dX2_products_61 : decode cX2_products 61 = .ok (.istore 7, 2) := by decide +kernel
theorem dX2_products_63 : decode cX2_products 63 = .ok (.iload_n 3, 1) := by decide +kernel
theorem dX2_products_64 : decode cX2_products 64 = .ok (.ifCond .eq 62, 3) := by decide +kernel
theorem dX2_products_67 : decode cX2_products 67 = .ok (.aload_n 0, 1) := by decide +kernel
theorem dX2_products_68 : decode cX2_products 68 = .ok (.getfield 23, 3) := by decide +kernel
theorem dX2_products_71 : decode cX2_products 71 = .ok (.iload 7, 2) := by decide +kernel
theorem dX2_products_73 : decode cX2_products 73 = .ok (.laload, 1) := by decide +kernel
theorem dX2_products_74 : decode cX2_products 74 = .ok (.lconst 0, 1) := by decide +kernel
theorem dX2_products_75 : decode cX2_products 75 = .ok (.lcmp, 1) := by decide +kernel
theorem dX2_products_76 : decode cX2_products 76 = .ok (.ifCond .eq 46, 3) := by decide +kernel
theorem dX2_products_79 : decode cX2_products 79 = .ok (.aload_n 0, 1) := by decide +kernel
theorem dX2_products_80 : decode cX2_products 80 = .ok (.bipush 9, 2) := by decide +kernel
theorem dX2_products_82 : decode cX2_products 82 = .ok (.iload 4, 2) := by decide +kernel
theorem dX2_products_84 : decode cX2_products 84 = .ok (.iload 5, 2) := by decide +kernel
theorem dX2_products_86 : decode cX2_products 86 = .ok (.iadd, 1) := by decide +kernel
theorem dX2_products_87 : decode cX2_products 87 = .ok (.aload_n 0, 1) := by decide +kernel
theorem dX2_products_88 : decode cX2_products 88 = .ok (.getfield 23, 3) := by decide +kernel
theorem dX2_products_91 : decode cX2_products 91 = .ok (.iload 6, 2) := by decide +kernel
theorem dX2_products_93 : decode cX2_products 93 = .ok (.laload, 1) := by decide +kernel
theorem dX2_products_94 : decode cX2_products 94 = .ok (.aload_n 0, 1) := by decide +kernel
theorem dX2_products_95 : decode cX2_products 95 = .ok (.getfield 27, 3) := by decide +kernel
theorem dX2_products_98 : decode cX2_products 98 = .ok (.iload 6, 2) := by decide +kernel
theorem dX2_products_100 : decode cX2_products 100 = .ok (.iaload, 1) := by decide +kernel
theorem dX2_products_101 : decode cX2_products 101 = .ok (.aload_n 0, 1) := by decide +kernel
theorem dX2_products_102 : decode cX2_products 102 = .ok (.getfield 23, 3) := by decide +kernel
theorem dX2_products_105 : decode cX2_products 105 = .ok (.iload 7, 2) := by decide +kernel
theorem dX2_products_107 : decode cX2_products 107 = .ok (.laload, 1) := by decide +kernel
theorem dX2_products_108 : decode cX2_products 108 = .ok (.aload_n 0, 1) := by decide +kernel
theorem dX2_products_109 : decode cX2_products 109 = .ok (.getfield 27, 3) := by decide +kernel
theorem dX2_products_112 : decode cX2_products 112 = .ok (.iload 7, 2) := by decide +kernel
theorem dX2_products_114 : decode cX2_products 114 = .ok (.iaload, 1) := by decide +kernel
theorem dX2_products_115 : decode cX2_products 115 = .ok (.lconst 1, 1) := by decide +kernel
theorem dX2_products_116 : decode cX2_products 116 = .ok (.invokevirtual 132, 3) := by decide +kernel
theorem dX2_products_119 : decode cX2_products 119 = .ok (.ifCond .eq 7, 3) := by decide +kernel
theorem dX2_products_122 : decode cX2_products 122 = .ok (.iconst 1, 1) := by decide +kernel
theorem dX2_products_123 : decode cX2_products 123 = .ok (.goto 4, 3) := by decide +kernel
theorem dX2_products_126 : decode cX2_products 126 = .ok (.iconst 0, 1) := by decide +kernel
theorem dX2_products_127 : decode cX2_products 127 = .ok (.istore_n 3, 1) := by decide +kernel
theorem dX2_products_128 : decode cX2_products 128 = .ok (.iinc 5 (-1), 3) := by decide +kernel
theorem dX2_products_131 : decode cX2_products 131 = .ok (.goto (-107), 3) := by decide +kernel
theorem dX2_products_134 : decode cX2_products 134 = .ok (.iinc 4 (-1), 3) := by decide +kernel
theorem dX2_products_137 : decode cX2_products 137 = .ok (.goto (-124), 3) := by decide +kernel
theorem dX2_products_140 : decode cX2_products 140 = .ok (.iload_n 3, 1) := by decide +kernel
theorem dX2_products_141 : decode cX2_products 141 = .ok (.ireturn, 1) := by decide +kernel
theorem dX2_sum_0 : decode cX2_sum 0 = .ok (.iload_n 1, 1) := by decide +kernel
theorem dX2_sum_1 : decode cX2_sum 1 = .ok (.invokestatic 119, 3) := by decide +kernel
theorem dX2_sum_4 : decode cX2_sum 4 = .ok (.ifCond .eq 30, 3) := by decide +kernel
theorem dX2_sum_7 : decode cX2_sum 7 = .ok (.iload_n 2, 1) := by decide +kernel
theorem dX2_sum_8 : decode cX2_sum 8 = .ok (.i2l, 1) := by decide +kernel
theorem dX2_sum_9 : decode cX2_sum 9 = .ok (.lconst 0, 1) := by decide +kernel
theorem dX2_sum_10 : decode cX2_sum 10 = .ok (.ldc2_w 38, 3) := by decide +kernel
theorem dX2_sum_13 : decode cX2_sum 13 = .ok (.invokestatic 32, 3) := by decide +kernel
theorem dX2_sum_16 : decode cX2_sum 16 = .ok (.ifCond .eq 18, 3) := by decide +kernel
theorem dX2_sum_19 : decode cX2_sum 19 = .ok (.iload_n 3, 1) := by decide +kernel
theorem dX2_sum_20 : decode cX2_sum 20 = .ok (.invokestatic 119, 3) := by decide +kernel
theorem dX2_sum_23 : decode cX2_sum 23 = .ok (.ifCond .eq 11, 3) := by decide +kernel
theorem dX2_sum_26 : decode cX2_sum 26 = .ok (.iload 4, 2) := by decide +kernel
theorem dX2_sum_28 : decode cX2_sum 28 = .ok (.invokestatic 119, 3) := by decide +kernel
theorem dX2_sum_31 : decode cX2_sum 31 = .ok (.ifCond .ne 5, 3) := by decide +kernel
theorem dX2_sum_34 : decode cX2_sum 34 = .ok (.iconst (-1), 1) := by decide +kernel
theorem dX2_sum_35 : decode cX2_sum 35 = .ok (.ireturn, 1) := by decide +kernel
theorem dX2_sum_36 : decode cX2_sum 36 = .ok (.iload_n 2, 1) := by decide +kernel
theorem dX2_sum_37 : decode cX2_sum 37 = .ok (.iconst 2, 1) := by decide +kernel
theorem dX2_sum_38 : decode cX2_sum 38 = .ok (.if_icmp .ne 13, 3) := by decide +kernel
theorem dX2_sum_41 : decode cX2_sum 41 = .ok (.aload_n 0, 1) := by decide +kernel
theorem dX2_sum_42 : decode cX2_sum 42 = .ok (.iload_n 3, 1) := by decide +kernel
theorem dX2_sum_43 : decode cX2_sum 43 = .ok (.iload 4, 2) := by decide +kernel
theorem dX2_sum_45 : decode cX2_sum 45 = .ok (.invokevirtual 136, 3) := by decide +kernel
theorem dX2_sum_48 : decode cX2_sum 48 = .ok (.goto 21, 3) := by decide +kernel
theorem dX2_sum_51 : decode cX2_sum 51 = .ok (.aload_n 0, 1) := by decide +kernel
theorem dX2_sum_52 : decode cX2_sum 52 = .ok (.iload_n 3, 1) := by decide +kernel
theorem dX2_sum_53 : decode cX2_sum 53 = .ok (.iload 4, 2) := by decide +kernel
theorem dX2_sum_55 : decode cX2_sum 55 = .ok (.iload_n 2, 1) := by decide +kernel
theorem dX2_sum_56 : decode cX2_sum 56 = .ok (.ifCond .ne 7, 3) := by decide +kernel
theorem dX2_sum_59 : decode cX2_sum 59 = .ok (.lconst 1, 1) := by decide +kernel
theorem dX2_sum_60 : decode cX2_sum 60 = .ok (.goto 6, 3) := by decide +kernel
theorem dX2_sum_63 : decode cX2_sum 63 = .ok (.ldc2_w 140, 3) := by decide +kernel
theorem dX2_sum_66 : decode cX2_sum 66 = .ok (.invokevirtual 142, 3) := by decide +kernel
theorem dX2_sum_69 : decode cX2_sum 69 = .ok (.istore 5, 2) := by decide +kernel
theorem dX2_sum_71 : decode cX2_sum 71 = .ok (.iload 5, 2) := by decide +kernel
theorem dX2_sum_73 : decode cX2_sum 73 = .ok (.ifCond .ne 6, 3) := by decide +kernel
theorem dX2_sum_76 : decode cX2_sum 76 = .ok (.bipush (-5), 2) := by decide +kernel
theorem dX2_sum_78 : decode cX2_sum 78 = .ok (.ireturn, 1) := by decide +kernel
theorem dX2_sum_79 : decode cX2_sum 79 = .ok (.aload_n 0, 1) := by decide +kernel
theorem dX2_sum_80 : decode cX2_sum 80 = .ok (.iload_n 1, 1) := by decide +kernel
theorem dX2_sum_81 : decode cX2_sum 81 = .ok (.bipush 9, 2) := by decide +kernel
theorem dX2_sum_83 : decode cX2_sum 83 = .ok (.invokevirtual 128, 3) := by decide +kernel
theorem dX2_sum_86 : decode cX2_sum 86 = .ok (.aload_n 0, 1) := by decide +kernel
theorem dX2_sum_87 : decode cX2_sum 87 = .ok (.iload_n 1, 1) := by decide +kernel
theorem dX2_sum_88 : decode cX2_sum 88 = .ok (.invokevirtual 122, 3) := by decide +kernel
theorem dX2_sum_91 : decode cX2_sum 91 = .ok (.ireturn, 1) := by decide +kernel
theorem dX2_greatest_0 : decode cX2_greatest 0 = .ok (.bipush 6, 2) := by decide +kernel
theorem dX2_greatest_2 : decode cX2_greatest 2 = .ok (.istore_n 2, 1) := by decide +kernel
theorem dX2_greatest_3 : decode cX2_greatest 3 = .ok (.iload_n 2, 1) := by decide +kernel
theorem dX2_greatest_4 : decode cX2_greatest 4 = .ok (.bipush (-6), 2) := by decide +kernel
theorem dX2_greatest_6 : decode cX2_greatest 6 = .ok (.if_icmp .lt 24, 3) := by decide +kernel
theorem dX2_greatest_9 : decode cX2_greatest 9 = .ok (.aload_n 0, 1) := by decide +kernel
theorem dX2_greatest_10 : decode cX2_greatest 10 = .ok (.getfield 23, 3) := by decide +kernel
theorem dX2_greatest_13 : decode cX2_greatest 13 = .ok (.iload_n 1, 1) := by decide +kernel
theorem dX2_greatest_14 : decode cX2_greatest 14 = .ok (.iload_n 2, 1) := by decide +kernel
theorem dX2_greatest_15 : decode cX2_greatest 15 = .ok (.invokestatic 105, 3) := by decide +kernel
theorem dX2_greatest_18 : decode cX2_greatest 18 = .ok (.laload, 1) := by decide +kernel
theorem dX2_greatest_19 : decode cX2_greatest 19 = .ok (.lconst 0, 1) := by decide +kernel
theorem dX2_greatest_20 : decode cX2_greatest 20 = .ok (.lcmp, 1) := by decide +kernel
theorem dX2_greatest_21 : decode cX2_greatest 21 = .ok (.ifCond .ne 9, 3) := by decide +kernel
theorem dX2_greatest_24 : decode cX2_greatest 24 = .ok (.iinc 2 (-1), 3) := by decide +kernel
theorem dX2_greatest_27 : decode cX2_greatest 27 = .ok (.goto (-24), 3) := by decide +kernel
theorem dX2_greatest_30 : decode cX2_greatest 30 = .ok (.iload_n 2, 1) := by decide +kernel
theorem dX2_greatest_31 : decode cX2_greatest 31 = .ok (.ireturn, 1) := by decide +kernel
theorem dX2_divide_0 : decode cX2_divide 0 = .ok (.iload_n 1, 1) := by decide +kernel
theorem dX2_divide_1 : decode cX2_divide 1 = .ok (.invokestatic 119, 3) := by decide +kernel
theorem dX2_divide_4 : decode cX2_divide 4 = .ok (.ifCond .eq 43, 3) := by decide +kernel
theorem dX2_divide_7 : decode cX2_divide 7 = .ok (.iload_n 2, 1) := by decide +kernel
theorem dX2_divide_8 : decode cX2_divide 8 = .ok (.invokestatic 119, 3) := by decide +kernel
theorem dX2_divide_11 : decode cX2_divide 11 = .ok (.ifCond .eq 36, 3) := by decide +kernel
theorem dX2_divide_14 : decode cX2_divide 14 = .ok (.iload_n 1, 1) := by decide +kernel
theorem dX2_divide_15 : decode cX2_divide 15 = .ok (.iload_n 2, 1) := by decide +kernel
theorem dX2_divide_16 : decode cX2_divide 16 = .ok (.if_icmp .eq 31, 3) := by decide +kernel
theorem dX2_divide_19 : decode cX2_divide 19 = .ok (.iload_n 3, 1) := by decide +kernel
theorem dX2_divide_20 : decode cX2_divide 20 = .ok (.invokestatic 119, 3) := by decide +kernel
theorem dX2_divide_23 : decode cX2_divide 23 = .ok (.ifCond .eq 24, 3) := by decide +kernel
theorem dX2_divide_26 : decode cX2_divide 26 = .ok (.iload 4, 2) := by decide +kernel
theorem dX2_divide_28 : decode cX2_divide 28 = .ok (.invokestatic 119, 3) := by decide +kernel
theorem dX2_divide_31 : decode cX2_divide 31 = .ok (.ifCond .eq 16, 3) := by decide +kernel
theorem dX2_divide_34 : decode cX2_divide 34 = .ok (.iload 5, 2) := by decide +kernel
theorem dX2_divide_36 : decode cX2_divide 36 = .ok (.i2l, 1) := by decide +kernel
theorem dX2_divide_37 : decode cX2_divide 37 = .ok (.lconst 1, 1) := by decide +kernel
theorem dX2_divide_38 : decode cX2_divide 38 = .ok (.ldc2_w 62, 3) := by decide +kernel
theorem dX2_divide_41 : decode cX2_divide 41 = .ok (.invokestatic 32, 3) := by decide +kernel
theorem dX2_divide_44 : decode cX2_divide 44 = .ok (.ifCond .ne 5, 3) := by decide +kernel
theorem dX2_divide_47 : decode cX2_divide 47 = .ok (.iconst (-1), 1) := by decide +kernel
theorem dX2_divide_48 : decode cX2_divide 48 = .ok (.ireturn, 1) := by decide +kernel
theorem dX2_divide_49 : decode cX2_divide 49 = .ok (.aload_n 0, 1) := by decide +kernel
theorem dX2_divide_50 : decode cX2_divide 50 = .ok (.iload 4, 2) := by decide +kernel
theorem dX2_divide_52 : decode cX2_divide 52 = .ok (.invokevirtual 146, 3) := by decide +kernel
theorem dX2_divide_55 : decode cX2_divide 55 = .ok (.istore 6, 2) := by decide +kernel
theorem dX2_divide_57 : decode cX2_divide 57 = .ok (.iload 6, 2) := by decide +kernel
theorem dX2_divide_59 : decode cX2_divide 59 = .ok (.bipush (-6), 2) := by decide +kernel
theorem dX2_divide_61 : decode cX2_divide 61 = .ok (.if_icmp .ge 6, 3) := by decide +kernel
theorem dX2_divide_64 : decode cX2_divide 64 = .ok (.bipush (-2), 2) := by decide +kernel
theorem dX2_divide_66 : decode cX2_divide 66 = .ok (.ireturn, 1) := by decide +kernel
theorem dX2_divide_67 : decode cX2_divide 67 = .ok (.aload_n 0, 1) := by decide +kernel
theorem dX2_divide_68 : decode cX2_divide 68 = .ok (.getfield 23, 3) := by decide +kernel
theorem dX2_divide_71 : decode cX2_divide 71 = .ok (.iload 4, 2) := by decide +kernel
theorem dX2_divide_73 : decode cX2_divide 73 = .ok (.iload 6, 2) := by decide +kernel
theorem dX2_divide_75 : decode cX2_divide 75 = .ok (.invokestatic 105, 3) := by decide +kernel
theorem dX2_divide_78 : decode cX2_divide 78 = .ok (.laload, 1) := by decide +kernel
theorem dX2_divide_79 : decode cX2_divide 79 = .ok (.lstore 7, 2) := by decide +kernel
theorem dX2_divide_81 : decode cX2_divide 81 = .ok (.lload 7, 2) := by decide +kernel
theorem dX2_divide_83 : decode cX2_divide 83 = .ok (.lconst 0, 1) := by decide +kernel
theorem dX2_divide_84 : decode cX2_divide 84 = .ok (.lcmp, 1) := by decide +kernel
theorem dX2_divide_85 : decode cX2_divide 85 = .ok (.ifCond .ge 9, 3) := by decide +kernel
theorem dX2_divide_88 : decode cX2_divide 88 = .ok (.lload 7, 2) := by decide +kernel
theorem dX2_divide_90 : decode cX2_divide 90 = .ok (.lneg, 1) := by decide +kernel
theorem dX2_divide_91 : decode cX2_divide 91 = .ok (.goto 5, 3) := by decide +kernel
theorem dX2_divide_94 : decode cX2_divide 94 = .ok (.lload 7, 2) := by decide +kernel
theorem dX2_divide_96 : decode cX2_divide 96 = .ok (.lstore 9, 2) := by decide +kernel
theorem dX2_divide_98 : decode cX2_divide 98 = .ok (.iconst 0, 1) := by decide +kernel
theorem dX2_divide_99 : decode cX2_divide 99 = .ok (.istore 11, 2) := by decide +kernel
theorem dX2_divide_101 : decode cX2_divide 101 = .ok (.lload 9, 2) := by decide +kernel
theorem dX2_divide_103 : decode cX2_divide 103 = .ok (.ldc2_w 38, 3) := by decide +kernel
theorem dX2_divide_106 : decode cX2_divide 106 = .ok (.lrem, 1) := by decide +kernel
theorem dX2_divide_107 : decode cX2_divide 107 = .ok (.lconst 0, 1) := by decide +kernel
theorem dX2_divide_108 : decode cX2_divide 108 = .ok (.lcmp, 1) := by decide +kernel
theorem dX2_divide_109 : decode cX2_divide 109 = .ok (.ifCond .ne 17, 3) := by decide +kernel
theorem dX2_divide_112 : decode cX2_divide 112 = .ok (.lload 9, 2) := by decide +kernel
theorem dX2_divide_114 : decode cX2_divide 114 = .ok (.ldc2_w 38, 3) := by decide +kernel
theorem dX2_divide_117 : decode cX2_divide 117 = .ok (.ldiv, 1) := by decide +kernel
theorem dX2_divide_118 : decode cX2_divide 118 = .ok (.lstore 9, 2) := by decide +kernel
theorem dX2_divide_120 : decode cX2_divide 120 = .ok (.iinc 11 1, 3) := by decide +kernel
theorem dX2_divide_123 : decode cX2_divide 123 = .ok (.goto (-22), 3) := by decide +kernel
theorem dX2_divide_126 : decode cX2_divide 126 = .ok (.lload 9, 2) := by decide +kernel
theorem dX2_divide_128 : decode cX2_divide 128 = .ok (.lconst 1, 1) := by decide +kernel
theorem dX2_divide_129 : decode cX2_divide 129 = .ok (.lcmp, 1) := by decide +kernel
theorem dX2_divide_130 : decode cX2_divide 130 = .ok (.ifCond .eq 6, 3) := by decide +kernel
theorem dX2_divide_133 : decode cX2_divide 133 = .ok (.bipush (-2), 2) := by decide +kernel
theorem dX2_divide_135 : decode cX2_divide 135 = .ok (.ireturn, 1) := by decide +kernel
theorem dX2_divide_136 : decode cX2_divide 136 = .ok (.aload_n 0, 1) := by decide +kernel
theorem dX2_divide_137 : decode cX2_divide 137 = .ok (.bipush 8, 2) := by decide +kernel
theorem dX2_divide_139 : decode cX2_divide 139 = .ok (.iload_n 3, 1) := by decide +kernel
theorem dX2_divide_140 : decode cX2_divide 140 = .ok (.invokevirtual 128, 3) := by decide +kernel
theorem dX2_divide_143 : decode cX2_divide 143 = .ok (.aload_n 0, 1) := by decide +kernel
theorem dX2_divide_144 : decode cX2_divide 144 = .ok (.bipush 9, 2) := by decide +kernel
theorem dX2_divide_146 : decode cX2_divide 146 = .ok (.iconst (-1), 1) := by decide +kernel
theorem dX2_divide_147 : decode cX2_divide 147 = .ok (.invokevirtual 128, 3) := by decide +kernel
theorem dX2_divide_150 : decode cX2_divide 150 = .ok (.iconst 0, 1) := by decide +kernel
theorem dX2_divide_151 : decode cX2_divide 151 = .ok (.istore 12, 2) := by decide +kernel
theorem dX2_divide_153 : decode cX2_divide 153 = .ok (.iload 12, 2) := by decide +kernel
theorem dX2_divide_155 : decode cX2_divide 155 = .ok (.iload 5, 2) := by decide +kernel
theorem dX2_divide_157 : decode cX2_divide 157 = .ok (.if_icmp .ge 276, 3) := by decide +kernel
theorem dX2_divide_160 : decode cX2_divide 160 = .ok (.aload_n 0, 1) := by decide +kernel
theorem dX2_divide_161 : decode cX2_divide 161 = .ok (.bipush 8, 2) := by decide +kernel
theorem dX2_divide_163 : decode cX2_divide 163 = .ok (.invokevirtual 146, 3) := by decide +kernel
theorem dX2_divide_166 : decode cX2_divide 166 = .ok (.bipush (-6), 2) := by decide +kernel
theorem dX2_divide_168 : decode cX2_divide 168 = .ok (.if_icmp .lt 265, 3) := by decide +kernel
theorem dX2_divide_171 : decode cX2_divide 171 = .ok (.aload_n 0, 1) := by decide +kernel
theorem dX2_divide_172 : decode cX2_divide 172 = .ok (.bipush 8, 2) := by decide +kernel
theorem dX2_divide_174 : decode cX2_divide 174 = .ok (.invokevirtual 146, 3) := by decide +kernel
theorem dX2_divide_177 : decode cX2_divide 177 = .ok (.iload 6, 2) := by decide +kernel
theorem dX2_divide_179 : decode cX2_divide 179 = .ok (.isub, 1) := by decide +kernel
theorem dX2_divide_180 : decode cX2_divide 180 = .ok (.bipush (-6), 2) := by decide +kernel
theorem dX2_divide_182 : decode cX2_divide 182 = .ok (.if_icmp .lt 251, 3) := by decide +kernel
theorem dX2_divide_185 : decode cX2_divide 185 = .ok (.aload_n 0, 1) := by decide +kernel
theorem dX2_divide_186 : decode cX2_divide 186 = .ok (.bipush 8, 2) := by decide +kernel
theorem dX2_divide_188 : decode cX2_divide 188 = .ok (.invokevirtual 146, 3) := by decide +kernel
theorem dX2_divide_191 : decode cX2_divide 191 = .ok (.istore 13, 2) := by decide +kernel
theorem dX2_divide_193 : decode cX2_divide 193 = .ok (.aload_n 0, 1) := by decide +kernel
theorem dX2_divide_194 : decode cX2_divide 194 = .ok (.getfield 27, 3) := by decide +kernel
theorem dX2_divide_197 : decode cX2_divide 197 = .ok (.bipush 8, 2) := by decide +kernel
theorem dX2_divide_199 : decode cX2_divide 199 = .ok (.iload 13, 2) := by decide +kernel
theorem dX2_divide_201 : decode cX2_divide 201 = .ok (.invokestatic 105, 3) := by decide +kernel
theorem dX2_divide_204 : decode cX2_divide 204 = .ok (.iaload, 1) := by decide +kernel
theorem dX2_divide_205 : decode cX2_divide 205 = .ok (.iload 11, 2) := by decide +kernel
theorem dX2_divide_207 : decode cX2_divide 207 = .ok (.iadd, 1) := by decide +kernel
theorem dX2_divide_208 : decode cX2_divide 208 = .ok (.aload_n 0, 1) := by decide +kernel
theorem dX2_divide_209 : decode cX2_divide 209 = .ok (.getfield 27, 3) := by decide +kernel
theorem dX2_divide_212 : decode cX2_divide 212 = .ok (.iload 4, 2) := by decide +kernel
theorem dX2_divide_214 : decode cX2_divide 214 = .ok (.iload 6, 2) := by decide +kernel
theorem dX2_divide_216 : decode cX2_divide 216 = .ok (.invokestatic 105, 3) := by decide +kernel
theorem dX2_divide_219 : decode cX2_divide 219 = .ok (.iaload, 1) := by decide +kernel
theorem dX2_divide_220 : decode cX2_divide 220 = .ok (.isub, 1) := by decide +kernel
theorem dX2_divide_221 : decode cX2_divide 221 = .ok (.istore 14, 2) := by decide +kernel
theorem dX2_divide_223 : decode cX2_divide 223 = .ok (.aload_n 0, 1) := by decide +kernel
theorem dX2_divide_224 : decode cX2_divide 224 = .ok (.getfield 23, 3) := by decide +kernel
theorem dX2_divide_227 : decode cX2_divide 227 = .ok (.bipush 8, 2) := by decide +kernel
theorem dX2_divide_229 : decode cX2_divide 229 = .ok (.iload 13, 2) := by decide +kernel
theorem dX2_divide_231 : decode cX2_divide 231 = .ok (.invokestatic 105, 3) := by decide +kernel
theorem dX2_divide_234 : decode cX2_divide 234 = .ok (.laload, 1) := by decide +kernel
