theorem dX6_goes_185 : decode cX6_goes 185 = .ok (.invokestatic 93, 3) := by decide +kernel
theorem dX6_goes_188 : decode cX6_goes 188 = .ok (.goto 4, 3) := by decide +kernel
theorem dX6_goes_191 : decode cX6_goes 191 = .ok (.iconst 0, 1) := by decide +kernel
theorem dX6_goes_192 : decode cX6_goes 192 = .ok (.istore 8, 2) := by decide +kernel
theorem dX6_goes_194 : decode cX6_goes 194 = .ok (.aload_n 0, 1) := by decide +kernel
theorem dX6_goes_195 : decode cX6_goes 195 = .ok (.getfield 20, 3) := by decide +kernel
theorem dX6_goes_198 : decode cX6_goes 198 = .ok (.iload 5, 2) := by decide +kernel
theorem dX6_goes_200 : decode cX6_goes 200 = .ok (.iload 8, 2) := by decide +kernel
theorem dX6_goes_202 : decode cX6_goes 202 = .ok (.aload_n 0, 1) := by decide +kernel
theorem dX6_goes_203 : decode cX6_goes 203 = .ok (.getfield 20, 3) := by decide +kernel
theorem dX6_goes_206 : decode cX6_goes 206 = .ok (.iload 5, 2) := by decide +kernel
theorem dX6_goes_208 : decode cX6_goes 208 = .ok (.iaload, 1) := by decide +kernel
theorem dX6_goes_209 : decode cX6_goes 209 = .ok (.if_icmp .le 8, 3) := by decide +kernel
theorem dX6_goes_212 : decode cX6_goes 212 = .ok (.iload 8, 2) := by decide +kernel
theorem dX6_goes_214 : decode cX6_goes 214 = .ok (.goto 10, 3) := by decide +kernel
theorem dX6_goes_217 : decode cX6_goes 217 = .ok (.aload_n 0, 1) := by decide +kernel
theorem dX6_goes_218 : decode cX6_goes 218 = .ok (.getfield 20, 3) := by decide +kernel
theorem dX6_goes_221 : decode cX6_goes 221 = .ok (.iload 5, 2) := by decide +kernel
theorem dX6_goes_223 : decode cX6_goes 223 = .ok (.iaload, 1) := by decide +kernel
theorem dX6_goes_224 : decode cX6_goes 224 = .ok (.iastore, 1) := by decide +kernel
theorem dX6_goes_225 : decode cX6_goes 225 = .ok (.iinc 4 6, 3) := by decide +kernel
theorem dX6_goes_228 : decode cX6_goes 228 = .ok (.goto (-186), 3) := by decide +kernel
theorem dX6_goes_231 : decode cX6_goes 231 = .ok (.iinc 3 1, 3) := by decide +kernel
theorem dX6_goes_234 : decode cX6_goes 234 = .ok (.goto (-201), 3) := by decide +kernel
theorem dX6_goes_237 : decode cX6_goes 237 = .ok (.return_, 1) := by decide +kernel
theorem dX6_less_0 : decode cX6_less 0 = .ok (.iload_n 0, 1) := by decide +kernel
theorem dX6_less_1 : decode cX6_less 1 = .ok (.iload_n 1, 1) := by decide +kernel
theorem dX6_less_2 : decode cX6_less 2 = .ok (.if_icmp .ge 7, 3) := by decide +kernel
theorem dX6_less_5 : decode cX6_less 5 = .ok (.iload_n 0, 1) := by decide +kernel
theorem dX6_less_6 : decode cX6_less 6 = .ok (.goto 4, 3) := by decide +kernel
theorem dX6_less_9 : decode cX6_less 9 = .ok (.iload_n 1, 1) := by decide +kernel
theorem dX6_less_10 : decode cX6_less 10 = .ok (.ireturn, 1) := by decide +kernel
theorem dX6_deep_0 : decode cX6_deep 0 = .ok (.iload_n 1, 1) := by decide +kernel
theorem dX6_deep_1 : decode cX6_deep 1 = .ok (.invokestatic 96, 3) := by decide +kernel
theorem dX6_deep_4 : decode cX6_deep 4 = .ok (.ifCond .eq 10, 3) := by decide +kernel
theorem dX6_deep_7 : decode cX6_deep 7 = .ok (.iload_n 2, 1) := by decide +kernel
theorem dX6_deep_8 : decode cX6_deep 8 = .ok (.invokestatic 96, 3) := by decide +kernel
theorem dX6_deep_11 : decode cX6_deep 11 = .ok (.ifCond .ne 9, 3) := by decide +kernel
theorem dX6_deep_14 : decode cX6_deep 14 = .ok (.aload_n 0, 1) := by decide +kernel
theorem dX6_deep_15 : decode cX6_deep 15 = .ok (.iconst 1, 1) := by decide +kernel
theorem dX6_deep_16 : decode cX6_deep 16 = .ok (.invokevirtual 83, 3) := by decide +kernel
theorem dX6_deep_19 : decode cX6_deep 19 = .ok (.ireturn, 1) := by decide +kernel
theorem dX6_deep_20 : decode cX6_deep 20 = .ok (.aload_n 0, 1) := by decide +kernel
theorem dX6_deep_21 : decode cX6_deep 21 = .ok (.iconst 0, 1) := by decide +kernel
theorem dX6_deep_22 : decode cX6_deep 22 = .ok (.putfield 26, 3) := by decide +kernel
theorem dX6_deep_25 : decode cX6_deep 25 = .ok (.aload_n 0, 1) := by decide +kernel
theorem dX6_deep_26 : decode cX6_deep 26 = .ok (.iconst 0, 1) := by decide +kernel
theorem dX6_deep_27 : decode cX6_deep 27 = .ok (.iload_n 1, 1) := by decide +kernel
theorem dX6_deep_28 : decode cX6_deep 28 = .ok (.invokevirtual 99, 3) := by decide +kernel
theorem dX6_deep_31 : decode cX6_deep 31 = .ok (.aload_n 0, 1) := by decide +kernel
theorem dX6_deep_32 : decode cX6_deep 32 = .ok (.getfield 20, 3) := by decide +kernel
theorem dX6_deep_35 : decode cX6_deep 35 = .ok (.iload_n 2, 1) := by decide +kernel
theorem dX6_deep_36 : decode cX6_deep 36 = .ok (.iaload, 1) := by decide +kernel
theorem dX6_deep_37 : decode cX6_deep 37 = .ok (.ireturn, 1) := by decide +kernel
theorem dX6_bad_0 : decode cX6_bad 0 = .ok (.aload_n 0, 1) := by decide +kernel
theorem dX6_bad_1 : decode cX6_bad 1 = .ok (.iconst 0, 1) := by decide +kernel
theorem dX6_bad_2 : decode cX6_bad 2 = .ok (.putfield 26, 3) := by decide +kernel
theorem dX6_bad_5 : decode cX6_bad 5 = .ok (.iconst (-1), 1) := by decide +kernel
theorem dX6_bad_6 : decode cX6_bad 6 = .ok (.aload_n 0, 1) := by decide +kernel
theorem dX6_bad_7 : decode cX6_bad 7 = .ok (.sipush 1000, 3) := by decide +kernel
theorem dX6_bad_10 : decode cX6_bad 10 = .ok (.invokevirtual 110, 3) := by decide +kernel
theorem dX6_bad_13 : decode cX6_bad 13 = .ok (.isub, 1) := by decide +kernel
theorem dX6_bad_14 : decode cX6_bad 14 = .ok (.ireturn, 1) := by decide +kernel
theorem dX6_badAt_0 : decode cX6_badAt 0 = .ok (.aload_n 0, 1) := by decide +kernel
theorem dX6_badAt_1 : decode cX6_badAt 1 = .ok (.iconst 0, 1) := by decide +kernel
theorem dX6_badAt_2 : decode cX6_badAt 2 = .ok (.iconst 0, 1) := by decide +kernel
theorem dX6_badAt_3 : decode cX6_badAt 3 = .ok (.invokevirtual 99, 3) := by decide +kernel
theorem dX6_badAt_6 : decode cX6_badAt 6 = .ok (.iload_n 1, 1) := by decide +kernel
theorem dX6_badAt_7 : decode cX6_badAt 7 = .ok (.istore_n 2, 1) := by decide +kernel
theorem dX6_badAt_8 : decode cX6_badAt 8 = .ok (.iconst 0, 1) := by decide +kernel
theorem dX6_badAt_9 : decode cX6_badAt 9 = .ok (.istore_n 3, 1) := by decide +kernel
theorem dX6_badAt_10 : decode cX6_badAt 10 = .ok (.iload_n 3, 1) := by decide +kernel
theorem dX6_badAt_11 : decode cX6_badAt 11 = .ok (.iconst 4, 1) := by decide +kernel
theorem dX6_badAt_12 : decode cX6_badAt 12 = .ok (.if_icmp .ge 66, 3) := by decide +kernel
theorem dX6_badAt_15 : decode cX6_badAt 15 = .ok (.iconst 0, 1) := by decide +kernel
theorem dX6_badAt_16 : decode cX6_badAt 16 = .ok (.istore 4, 2) := by decide +kernel
theorem dX6_badAt_18 : decode cX6_badAt 18 = .ok (.iload 4, 2) := by decide +kernel
theorem dX6_badAt_20 : decode cX6_badAt 20 = .ok (.aload_n 0, 1) := by decide +kernel
theorem dX6_badAt_21 : decode cX6_badAt 21 = .ok (.getfield 86, 3) := by decide +kernel
theorem dX6_badAt_24 : decode cX6_badAt 24 = .ok (.if_icmp .ge 48, 3) := by decide +kernel
theorem dX6_badAt_27 : decode cX6_badAt 27 = .ok (.aload_n 0, 1) := by decide +kernel
theorem dX6_badAt_28 : decode cX6_badAt 28 = .ok (.iload 4, 2) := by decide +kernel
theorem dX6_badAt_30 : decode cX6_badAt 30 = .ok (.iload_n 3, 1) := by decide +kernel
theorem dX6_badAt_31 : decode cX6_badAt 31 = .ok (.invokevirtual 107, 3) := by decide +kernel
theorem dX6_badAt_34 : decode cX6_badAt 34 = .ok (.istore 5, 2) := by decide +kernel
theorem dX6_badAt_36 : decode cX6_badAt 36 = .ok (.iload 5, 2) := by decide +kernel
theorem dX6_badAt_38 : decode cX6_badAt 38 = .ok (.ifCond .eq 15, 3) := by decide +kernel
theorem dX6_badAt_41 : decode cX6_badAt 41 = .ok (.iload_n 2, 1) := by decide +kernel
theorem dX6_badAt_42 : decode cX6_badAt 42 = .ok (.ifCond .ne 11, 3) := by decide +kernel
theorem dX6_badAt_45 : decode cX6_badAt 45 = .ok (.bipush 10, 2) := by decide +kernel
theorem dX6_badAt_47 : decode cX6_badAt 47 = .ok (.iload 4, 2) := by decide +kernel
theorem dX6_badAt_49 : decode cX6_badAt 49 = .ok (.imul, 1) := by decide +kernel
theorem dX6_badAt_50 : decode cX6_badAt 50 = .ok (.iload_n 3, 1) := by decide +kernel
theorem dX6_badAt_51 : decode cX6_badAt 51 = .ok (.iadd, 1) := by decide +kernel
theorem dX6_badAt_52 : decode cX6_badAt 52 = .ok (.ireturn, 1) := by decide +kernel
theorem dX6_badAt_53 : decode cX6_badAt 53 = .ok (.iload_n 2, 1) := by decide +kernel
theorem dX6_badAt_54 : decode cX6_badAt 54 = .ok (.iload 5, 2) := by decide +kernel
theorem dX6_badAt_56 : decode cX6_badAt 56 = .ok (.ifCond .eq 7, 3) := by decide +kernel
theorem dX6_badAt_59 : decode cX6_badAt 59 = .ok (.iconst 1, 1) := by decide +kernel
theorem dX6_badAt_60 : decode cX6_badAt 60 = .ok (.goto 4, 3) := by decide +kernel
theorem dX6_badAt_63 : decode cX6_badAt 63 = .ok (.iconst 0, 1) := by decide +kernel
theorem dX6_badAt_64 : decode cX6_badAt 64 = .ok (.isub, 1) := by decide +kernel
theorem dX6_badAt_65 : decode cX6_badAt 65 = .ok (.istore_n 2, 1) := by decide +kernel
theorem dX6_badAt_66 : decode cX6_badAt 66 = .ok (.iinc 4 1, 3) := by decide +kernel
theorem dX6_badAt_69 : decode cX6_badAt 69 = .ok (.goto (-51), 3) := by decide +kernel
theorem dX6_badAt_72 : decode cX6_badAt 72 = .ok (.iinc 3 1, 3) := by decide +kernel
theorem dX6_badAt_75 : decode cX6_badAt 75 = .ok (.goto (-65), 3) := by decide +kernel
theorem dX6_badAt_78 : decode cX6_badAt 78 = .ok (.iload_n 2, 1) := by decide +kernel
theorem dX6_badAt_79 : decode cX6_badAt 79 = .ok (.iload_n 1, 1) := by decide +kernel
theorem dX6_badAt_80 : decode cX6_badAt 80 = .ok (.isub, 1) := by decide +kernel
theorem dX6_badAt_81 : decode cX6_badAt 81 = .ok (.iconst 1, 1) := by decide +kernel
theorem dX6_badAt_82 : decode cX6_badAt 82 = .ok (.isub, 1) := by decide +kernel
theorem dX6_badAt_83 : decode cX6_badAt 83 = .ok (.ireturn, 1) := by decide +kernel
theorem dX6_isBad_0 : decode cX6_isBad 0 = .ok (.aload_n 0, 1) := by decide +kernel
theorem dX6_isBad_1 : decode cX6_isBad 1 = .ok (.getfield 17, 3) := by decide +kernel
theorem dX6_isBad_4 : decode cX6_isBad 4 = .ok (.bipush 6, 2) := by decide +kernel
theorem dX6_isBad_6 : decode cX6_isBad 6 = .ok (.iload_n 1, 1) := by decide +kernel
theorem dX6_isBad_7 : decode cX6_isBad 7 = .ok (.imul, 1) := by decide +kernel
theorem dX6_isBad_8 : decode cX6_isBad 8 = .ok (.iaload, 1) := by decide +kernel
theorem dX6_isBad_9 : decode cX6_isBad 9 = .ok (.istore_n 3, 1) := by decide +kernel
theorem dX6_isBad_10 : decode cX6_isBad 10 = .ok (.aload_n 0, 1) := by decide +kernel
theorem dX6_isBad_11 : decode cX6_isBad 11 = .ok (.getfield 17, 3) := by decide +kernel
theorem dX6_isBad_14 : decode cX6_isBad 14 = .ok (.bipush 6, 2) := by decide +kernel
theorem dX6_isBad_16 : decode cX6_isBad 16 = .ok (.iload_n 1, 1) := by decide +kernel
theorem dX6_isBad_17 : decode cX6_isBad 17 = .ok (.imul, 1) := by decide +kernel
theorem dX6_isBad_18 : decode cX6_isBad 18 = .ok (.iconst 2, 1) := by decide +kernel
theorem dX6_isBad_19 : decode cX6_isBad 19 = .ok (.iadd, 1) := by decide +kernel
theorem dX6_isBad_20 : decode cX6_isBad 20 = .ok (.iaload, 1) := by decide +kernel
theorem dX6_isBad_21 : decode cX6_isBad 21 = .ok (.istore 4, 2) := by decide +kernel
theorem dX6_isBad_23 : decode cX6_isBad 23 = .ok (.iload_n 2, 1) := by decide +kernel
theorem dX6_isBad_24 : decode cX6_isBad 24 = .ok (.tableswitch 104 0 2 #[28, 54, 80], 28) := by decide +kernel
theorem dX6_isBad_52 : decode cX6_isBad 52 = .ok (.iload_n 3, 1) := by decide +kernel
theorem dX6_isBad_53 : decode cX6_isBad 53 = .ok (.iconst 1, 1) := by decide +kernel
theorem dX6_isBad_54 : decode cX6_isBad 54 = .ok (.if_icmp .eq 8, 3) := by decide +kernel
theorem dX6_isBad_57 : decode cX6_isBad 57 = .ok (.iload_n 3, 1) := by decide +kernel
theorem dX6_isBad_58 : decode cX6_isBad 58 = .ok (.iconst 2, 1) := by decide +kernel
theorem dX6_isBad_59 : decode cX6_isBad 59 = .ok (.if_icmp .ne 17, 3) := by decide +kernel
theorem dX6_isBad_62 : decode cX6_isBad 62 = .ok (.aload_n 0, 1) := by decide +kernel
theorem dX6_isBad_63 : decode cX6_isBad 63 = .ok (.iconst 0, 1) := by decide +kernel
theorem dX6_isBad_64 : decode cX6_isBad 64 = .ok (.iload 4, 2) := by decide +kernel
theorem dX6_isBad_66 : decode cX6_isBad 66 = .ok (.invokevirtual 103, 3) := by decide +kernel
theorem dX6_isBad_69 : decode cX6_isBad 69 = .ok (.ifCond .ne 7, 3) := by decide +kernel
theorem dX6_isBad_72 : decode cX6_isBad 72 = .ok (.iconst 1, 1) := by decide +kernel
theorem dX6_isBad_73 : decode cX6_isBad 73 = .ok (.goto 4, 3) := by decide +kernel
theorem dX6_isBad_76 : decode cX6_isBad 76 = .ok (.iconst 0, 1) := by decide +kernel
theorem dX6_isBad_77 : decode cX6_isBad 77 = .ok (.ireturn, 1) := by decide +kernel
theorem dX6_isBad_78 : decode cX6_isBad 78 = .ok (.iload_n 3, 1) := by decide +kernel
theorem dX6_isBad_79 : decode cX6_isBad 79 = .ok (.iconst 3, 1) := by decide +kernel
theorem dX6_isBad_80 : decode cX6_isBad 80 = .ok (.if_icmp .eq 8, 3) := by decide +kernel
theorem dX6_isBad_83 : decode cX6_isBad 83 = .ok (.iload_n 3, 1) := by decide +kernel
theorem dX6_isBad_84 : decode cX6_isBad 84 = .ok (.iconst 5, 1) := by decide +kernel
theorem dX6_isBad_85 : decode cX6_isBad 85 = .ok (.if_icmp .ne 17, 3) := by decide +kernel
theorem dX6_isBad_88 : decode cX6_isBad 88 = .ok (.aload_n 0, 1) := by decide +kernel
theorem dX6_isBad_89 : decode cX6_isBad 89 = .ok (.iconst 4, 1) := by decide +kernel
theorem dX6_isBad_90 : decode cX6_isBad 90 = .ok (.iload 4, 2) := by decide +kernel
theorem dX6_isBad_92 : decode cX6_isBad 92 = .ok (.invokevirtual 103, 3) := by decide +kernel
theorem dX6_isBad_95 : decode cX6_isBad 95 = .ok (.ifCond .ne 7, 3) := by decide +kernel
theorem dX6_isBad_98 : decode cX6_isBad 98 = .ok (.iconst 1, 1) := by decide +kernel
theorem dX6_isBad_99 : decode cX6_isBad 99 = .ok (.goto 4, 3) := by decide +kernel
theorem dX6_isBad_102 : decode cX6_isBad 102 = .ok (.iconst 0, 1) := by decide +kernel
theorem dX6_isBad_103 : decode cX6_isBad 103 = .ok (.ireturn, 1) := by decide +kernel
theorem dX6_isBad_104 : decode cX6_isBad 104 = .ok (.iload_n 3, 1) := by decide +kernel
theorem dX6_isBad_105 : decode cX6_isBad 105 = .ok (.ifCond .ne 21, 3) := by decide +kernel
theorem dX6_isBad_108 : decode cX6_isBad 108 = .ok (.aload_n 0, 1) := by decide +kernel
theorem dX6_isBad_109 : decode cX6_isBad 109 = .ok (.getfield 17, 3) := by decide +kernel
theorem dX6_isBad_112 : decode cX6_isBad 112 = .ok (.bipush 6, 2) := by decide +kernel
theorem dX6_isBad_114 : decode cX6_isBad 114 = .ok (.iload_n 1, 1) := by decide +kernel
theorem dX6_isBad_115 : decode cX6_isBad 115 = .ok (.imul, 1) := by decide +kernel
theorem dX6_isBad_116 : decode cX6_isBad 116 = .ok (.iconst 4, 1) := by decide +kernel
theorem dX6_isBad_117 : decode cX6_isBad 117 = .ok (.iadd, 1) := by decide +kernel
theorem dX6_isBad_118 : decode cX6_isBad 118 = .ok (.iaload, 1) := by decide +kernel
theorem dX6_isBad_119 : decode cX6_isBad 119 = .ok (.ifCond .ne 7, 3) := by decide +kernel
theorem dX6_isBad_122 : decode cX6_isBad 122 = .ok (.iconst 1, 1) := by decide +kernel
theorem dX6_isBad_123 : decode cX6_isBad 123 = .ok (.goto 4, 3) := by decide +kernel
theorem dX6_isBad_126 : decode cX6_isBad 126 = .ok (.iconst 0, 1) := by decide +kernel
theorem dX6_isBad_127 : decode cX6_isBad 127 = .ok (.ireturn, 1) := by decide +kernel
theorem dX6_isBad_128 : decode cX6_isBad 128 = .ok (.iload_n 3, 1) := by decide +kernel
theorem dX6_isBad_129 : decode cX6_isBad 129 = .ok (.iconst 2, 1) := by decide +kernel
theorem dX6_isBad_130 : decode cX6_isBad 130 = .ok (.if_icmp .ne 28, 3) := by decide +kernel
theorem dX6_isBad_133 : decode cX6_isBad 133 = .ok (.aload_n 0, 1) := by decide +kernel
theorem dX6_isBad_134 : decode cX6_isBad 134 = .ok (.getfield 17, 3) := by decide +kernel
theorem dX6_isBad_137 : decode cX6_isBad 137 = .ok (.bipush 6, 2) := by decide +kernel
theorem dX6_isBad_139 : decode cX6_isBad 139 = .ok (.iload_n 1, 1) := by decide +kernel
theorem dX6_isBad_140 : decode cX6_isBad 140 = .ok (.imul, 1) := by decide +kernel
theorem dX6_isBad_141 : decode cX6_isBad 141 = .ok (.iconst 4, 1) := by decide +kernel
theorem dX6_isBad_142 : decode cX6_isBad 142 = .ok (.iadd, 1) := by decide +kernel
theorem dX6_isBad_143 : decode cX6_isBad 143 = .ok (.iaload, 1) := by decide +kernel
theorem dX6_isBad_144 : decode cX6_isBad 144 = .ok (.aload_n 0, 1) := by decide +kernel
theorem dX6_isBad_145 : decode cX6_isBad 145 = .ok (.getfield 20, 3) := by decide +kernel
theorem dX6_isBad_148 : decode cX6_isBad 148 = .ok (.iload 4, 2) := by decide +kernel
theorem dX6_isBad_150 : decode cX6_isBad 150 = .ok (.iaload, 1) := by decide +kernel
theorem dX6_isBad_151 : decode cX6_isBad 151 = .ok (.if_icmp .le 7, 3) := by decide +kernel
theorem dX6_isBad_154 : decode cX6_isBad 154 = .ok (.iconst 1, 1) := by decide +kernel
theorem dX6_isBad_155 : decode cX6_isBad 155 = .ok (.goto 4, 3) := by decide +kernel
theorem dX6_isBad_158 : decode cX6_isBad 158 = .ok (.iconst 0, 1) := by decide +kernel
theorem dX6_isBad_159 : decode cX6_isBad 159 = .ok (.ireturn, 1) := by decide +kernel
theorem dX6_isTouched_0 : decode cX6_isTouched 0 = .ok (.iconst 0, 1) := by decide +kernel
theorem dX6_isTouched_1 : decode cX6_isTouched 1 = .ok (.istore_n 3, 1) := by decide +kernel
theorem dX6_isTouched_2 : decode cX6_isTouched 2 = .ok (.iconst 0, 1) := by decide +kernel
theorem dX6_isTouched_3 : decode cX6_isTouched 3 = .ok (.istore 4, 2) := by decide +kernel
theorem dX6_isTouched_5 : decode cX6_isTouched 5 = .ok (.iload 4, 2) := by decide +kernel
theorem dX6_isTouched_7 : decode cX6_isTouched 7 = .ok (.bipush 6, 2) := by decide +kernel
theorem dX6_isTouched_9 : decode cX6_isTouched 9 = .ok (.aload_n 0, 1) := by decide +kernel
theorem dX6_isTouched_10 : decode cX6_isTouched 10 = .ok (.getfield 86, 3) := by decide +kernel
theorem dX6_isTouched_13 : decode cX6_isTouched 13 = .ok (.imul, 1) := by decide +kernel
theorem dX6_isTouched_14 : decode cX6_isTouched 14 = .ok (.if_icmp .ge 56, 3) := by decide +kernel
theorem dX6_isTouched_17 : decode cX6_isTouched 17 = .ok (.iload_n 3, 1) := by decide +kernel
theorem dX6_isTouched_18 : decode cX6_isTouched 18 = .ok (.ifCond .ne 40, 3) := by decide +kernel
theorem dX6_isTouched_21 : decode cX6_isTouched 21 = .ok (.aload_n 0, 1) := by decide +kernel
theorem dX6_isTouched_22 : decode cX6_isTouched 22 = .ok (.getfield 17, 3) := by decide +kernel
theorem dX6_isTouched_25 : decode cX6_isTouched 25 = .ok (.iload 4, 2) := by decide +kernel
theorem dX6_isTouched_27 : decode cX6_isTouched 27 = .ok (.iaload, 1) := by decide +kernel
theorem dX6_isTouched_28 : decode cX6_isTouched 28 = .ok (.iload_n 1, 1) := by decide +kernel
theorem dX6_isTouched_29 : decode cX6_isTouched 29 = .ok (.if_icmp .ne 33, 3) := by decide +kernel
theorem dX6_isTouched_32 : decode cX6_isTouched 32 = .ok (.aload_n 0, 1) := by decide +kernel
theorem dX6_isTouched_33 : decode cX6_isTouched 33 = .ok (.getfield 17, 3) := by decide +kernel
theorem dX6_isTouched_36 : decode cX6_isTouched 36 = .ok (.iload 4, 2) := by decide +kernel
theorem dX6_isTouched_38 : decode cX6_isTouched 38 = .ok (.iconst 2, 1) := by decide +kernel
theorem dX6_isTouched_39 : decode cX6_isTouched 39 = .ok (.iadd, 1) := by decide +kernel
theorem dX6_isTouched_40 : decode cX6_isTouched 40 = .ok (.iaload, 1) := by decide +kernel
theorem dX6_isTouched_41 : decode cX6_isTouched 41 = .ok (.iload_n 2, 1) := by decide +kernel
theorem dX6_isTouched_42 : decode cX6_isTouched 42 = .ok (.if_icmp .eq 16, 3) := by decide +kernel
theorem dX6_isTouched_45 : decode cX6_isTouched 45 = .ok (.aload_n 0, 1) := by decide +kernel
theorem dX6_isTouched_46 : decode cX6_isTouched 46 = .ok (.getfield 17, 3) := by decide +kernel
theorem dX6_isTouched_49 : decode cX6_isTouched 49 = .ok (.iload 4, 2) := by decide +kernel
theorem dX6_isTouched_51 : decode cX6_isTouched 51 = .ok (.iconst 3, 1) := by decide +kernel
theorem dX6_isTouched_52 : decode cX6_isTouched 52 = .ok (.iadd, 1) := by decide +kernel
theorem dX6_isTouched_53 : decode cX6_isTouched 53 = .ok (.iaload, 1) := by decide +kernel
theorem dX6_isTouched_54 : decode cX6_isTouched 54 = .ok (.iload_n 2, 1) := by decide +kernel
theorem dX6_isTouched_55 : decode cX6_isTouched 55 = .ok (.if_icmp .ne 7, 3) := by decide +kernel
theorem dX6_isTouched_58 : decode cX6_isTouched 58 = .ok (.iconst 1, 1) := by decide +kernel
theorem dX6_isTouched_59 : decode cX6_isTouched 59 = .ok (.goto 4, 3) := by decide +kernel
theorem dX6_isTouched_62 : decode cX6_isTouched 62 = .ok (.iconst 0, 1) := by decide +kernel
theorem dX6_isTouched_63 : decode cX6_isTouched 63 = .ok (.istore_n 3, 1) := by decide +kernel
theorem dX6_isTouched_64 : decode cX6_isTouched 64 = .ok (.iinc 4 6, 3) := by decide +kernel
theorem dX6_isTouched_67 : decode cX6_isTouched 67 = .ok (.goto (-62), 3) := by decide +kernel
theorem dX6_isTouched_70 : decode cX6_isTouched 70 = .ok (.iload_n 3, 1) := by decide +kernel
theorem dX6_isTouched_71 : decode cX6_isTouched 71 = .ok (.ireturn, 1) := by decide +kernel
theorem dX6_unjoined_0 : decode cX6_unjoined 0 = .ok (.aload_n 0, 1) := by decide +kernel
theorem dX6_unjoined_1 : decode cX6_unjoined 1 = .ok (.iconst 0, 1) := by decide +kernel
theorem dX6_unjoined_2 : decode cX6_unjoined 2 = .ok (.putfield 26, 3) := by decide +kernel
theorem dX6_unjoined_5 : decode cX6_unjoined 5 = .ok (.iload_n 1, 1) := by decide +kernel
theorem dX6_unjoined_6 : decode cX6_unjoined 6 = .ok (.ifCond .ge 7, 3) := by decide +kernel
theorem dX6_unjoined_9 : decode cX6_unjoined 9 = .ok (.iconst (-1), 1) := by decide +kernel
theorem dX6_unjoined_10 : decode cX6_unjoined 10 = .ok (.goto 8, 3) := by decide +kernel
theorem dX6_unjoined_13 : decode cX6_unjoined 13 = .ok (.aload_n 0, 1) := by decide +kernel
theorem dX6_unjoined_14 : decode cX6_unjoined 14 = .ok (.iload_n 1, 1) := by decide +kernel
theorem dX6_unjoined_15 : decode cX6_unjoined 15 = .ok (.invokevirtual 110, 3) := by decide +kernel
theorem dX6_unjoined_18 : decode cX6_unjoined 18 = .ok (.istore_n 2, 1) := by decide +kernel
theorem dX6_unjoined_19 : decode cX6_unjoined 19 = .ok (.iload_n 2, 1) := by decide +kernel
theorem dX6_unjoined_20 : decode cX6_unjoined 20 = .ok (.ifCond .ge 7, 3) := by decide +kernel
theorem dX6_unjoined_23 : decode cX6_unjoined 23 = .ok (.iconst (-1), 1) := by decide +kernel
theorem dX6_unjoined_24 : decode cX6_unjoined 24 = .ok (.goto 4, 3) := by decide +kernel
theorem dX6_unjoined_27 : decode cX6_unjoined 27 = .ok (.iload_n 2, 1) := by decide +kernel
theorem dX6_unjoined_28 : decode cX6_unjoined 28 = .ok (.ireturn, 1) := by decide +kernel
theorem dX6_print_0 : decode cX6_print 0 = .ok (.aload_n 0, 1) := by decide +kernel
theorem dX6_print_1 : decode cX6_print 1 = .ok (.iconst 0, 1) := by decide +kernel
theorem dX6_print_2 : decode cX6_print 2 = .ok (.putfield 26, 3) := by decide +kernel
theorem dX6_print_5 : decode cX6_print 5 = .ok (.aload_n 0, 1) := by decide +kernel
theorem dX6_print_6 : decode cX6_print 6 = .ok (.invokevirtual 119, 3) := by decide +kernel
theorem dX6_print_9 : decode cX6_print 9 = .ok (.ireturn, 1) := by decide +kernel
theorem dX6_length_0 : decode cX6_length 0 = .ok (.iconst 0, 1) := by decide +kernel
theorem dX6_length_1 : decode cX6_length 1 = .ok (.istore_n 1, 1) := by decide +kernel
theorem dX6_length_2 : decode cX6_length 2 = .ok (.iconst 0, 1) := by decide +kernel
theorem dX6_length_3 : decode cX6_length 3 = .ok (.istore_n 2, 1) := by decide +kernel
theorem dX6_length_4 : decode cX6_length 4 = .ok (.iload_n 2, 1) := by decide +kernel
theorem dX6_length_5 : decode cX6_length 5 = .ok (.aload_n 0, 1) := by decide +kernel
theorem dX6_length_6 : decode cX6_length 6 = .ok (.getfield 86, 3) := by decide +kernel
theorem dX6_length_9 : decode cX6_length 9 = .ok (.if_icmp .ge 17, 3) := by decide +kernel
theorem dX6_length_12 : decode cX6_length 12 = .ok (.iload_n 1, 1) := by decide +kernel
theorem dX6_length_13 : decode cX6_length 13 = .ok (.aload_n 0, 1) := by decide +kernel
theorem dX6_length_14 : decode cX6_length 14 = .ok (.iload_n 2, 1) := by decide +kernel
theorem dX6_length_15 : decode cX6_length 15 = .ok (.invokevirtual 116, 3) := by decide +kernel
theorem dX6_length_18 : decode cX6_length 18 = .ok (.iadd, 1) := by decide +kernel
theorem dX6_length_19 : decode cX6_length 19 = .ok (.istore_n 1, 1) := by decide +kernel
theorem dX6_length_20 : decode cX6_length 20 = .ok (.iinc 2 1, 3) := by decide +kernel
theorem dX6_length_23 : decode cX6_length 23 = .ok (.goto (-19), 3) := by decide +kernel
theorem dX6_length_26 : decode cX6_length 26 = .ok (.iload_n 1, 1) := by decide +kernel
theorem dX6_length_27 : decode cX6_length 27 = .ok (.ireturn, 1) := by decide +kernel
theorem dX6_prints_0 : decode cX6_prints 0 = .ok (.aload_n 0, 1) := by decide +kernel
theorem dX6_prints_1 : decode cX6_prints 1 = .ok (.getfield 17, 3) := by decide +kernel
theorem dX6_prints_4 : decode cX6_prints 4 = .ok (.bipush 6, 2) := by decide +kernel
theorem dX6_prints_6 : decode cX6_prints 6 = .ok (.iload_n 1, 1) := by decide +kernel
theorem dX6_prints_7 : decode cX6_prints 7 = .ok (.imul, 1) := by decide +kernel
theorem dX6_prints_8 : decode cX6_prints 8 = .ok (.iaload, 1) := by decide +kernel
theorem dX6_prints_9 : decode cX6_prints 9 = .ok (.istore_n 2, 1) := by decide +kernel
theorem dX6_prints_10 : decode cX6_prints 10 = .ok (.iload_n 2, 1) := by decide +kernel
theorem dX6_prints_11 : decode cX6_prints 11 = .ok (.invokestatic 77, 3) := by decide +kernel
theorem dX6_prints_14 : decode cX6_prints 14 = .ok (.istore_n 3, 1) := by decide +kernel
theorem dX6_prints_15 : decode cX6_prints 15 = .ok (.aload_n 0, 1) := by decide +kernel
theorem dX6_prints_16 : decode cX6_prints 16 = .ok (.getfield 23, 3) := by decide +kernel
theorem dX6_prints_19 : decode cX6_prints 19 = .ok (.iconst 0, 1) := by decide +kernel
theorem dX6_prints_20 : decode cX6_prints 20 = .ok (.iload_n 2, 1) := by decide +kernel
theorem dX6_prints_21 : decode cX6_prints 21 = .ok (.invokestatic 29, 3) := by decide +kernel
theorem dX6_prints_24 : decode cX6_prints 24 = .ok (.iastore, 1) := by decide +kernel
theorem dX6_prints_25 : decode cX6_prints 25 = .ok (.aload_n 0, 1) := by decide +kernel
theorem dX6_prints_26 : decode cX6_prints 26 = .ok (.iconst 1, 1) := by decide +kernel
theorem dX6_prints_27 : decode cX6_prints 27 = .ok (.aload_n 0, 1) := by decide +kernel
theorem dX6_prints_28 : decode cX6_prints 28 = .ok (.getfield 17, 3) := by decide +kernel
theorem dX6_prints_31 : decode cX6_prints 31 = .ok (.bipush 6, 2) := by decide +kernel
theorem dX6_prints_33 : decode cX6_prints 33 = .ok (.iload_n 1, 1) := by decide +kernel
theorem dX6_prints_34 : decode cX6_prints 34 = .ok (.imul, 1) := by decide +kernel
theorem dX6_prints_35 : decode cX6_prints 35 = .ok (.iconst 1, 1) := by decide +kernel
theorem dX6_prints_36 : decode cX6_prints 36 = .ok (.iadd, 1) := by decide +kernel
theorem dX6_prints_37 : decode cX6_prints 37 = .ok (.iaload, 1) := by decide +kernel
theorem dX6_prints_38 : decode cX6_prints 38 = .ok (.bipush 61, 2) := by decide +kernel
theorem dX6_prints_40 : decode cX6_prints 40 = .ok (.invokevirtual 113, 3) := by decide +kernel
theorem dX6_prints_43 : decode cX6_prints 43 = .ok (.istore 4, 2) := by decide +kernel
theorem dX6_prints_45 : decode cX6_prints 45 = .ok (.iconst 0, 1) := by decide +kernel
theorem dX6_prints_46 : decode cX6_prints 46 = .ok (.istore 5, 2) := by decide +kernel
theorem dX6_prints_48 : decode cX6_prints 48 = .ok (.iload 5, 2) := by decide +kernel
theorem dX6_prints_50 : decode cX6_prints 50 = .ok (.iload_n 3, 1) := by decide +kernel
theorem dX6_prints_51 : decode cX6_prints 51 = .ok (.if_icmp .ge 46, 3) := by decide +kernel
theorem dX6_prints_54 : decode cX6_prints 54 = .ok (.aload_n 0, 1) := by decide +kernel
theorem dX6_prints_55 : decode cX6_prints 55 = .ok (.iload 4, 2) := by decide +kernel
theorem dX6_prints_57 : decode cX6_prints 57 = .ok (.aload_n 0, 1) := by decide +kernel
theorem dX6_prints_58 : decode cX6_prints 58 = .ok (.getfield 17, 3) := by decide +kernel
theorem dX6_prints_61 : decode cX6_prints 61 = .ok (.bipush 6, 2) := by decide +kernel
theorem dX6_prints_63 : decode cX6_prints 63 = .ok (.iload_n 1, 1) := by decide +kernel
theorem dX6_prints_64 : decode cX6_prints 64 = .ok (.imul, 1) := by decide +kernel
theorem dX6_prints_65 : decode cX6_prints 65 = .ok (.iconst 2, 1) := by decide +kernel
theorem dX6_prints_66 : decode cX6_prints 66 = .ok (.iadd, 1) := by decide +kernel
theorem dX6_prints_67 : decode cX6_prints 67 = .ok (.iload 5, 2) := by decide +kernel
theorem dX6_prints_69 : decode cX6_prints 69 = .ok (.iadd, 1) := by decide +kernel
theorem dX6_prints_70 : decode cX6_prints 70 = .ok (.iaload, 1) := by decide +kernel
theorem dX6_prints_71 : decode cX6_prints 71 = .ok (.iload 5, 2) := by decide +kernel
theorem dX6_prints_73 : decode cX6_prints 73 = .ok (.iload_n 3, 1) := by decide +kernel
theorem dX6_prints_74 : decode cX6_prints 74 = .ok (.iconst 1, 1) := by decide +kernel
theorem dX6_prints_75 : decode cX6_prints 75 = .ok (.isub, 1) := by decide +kernel
theorem dX6_prints_76 : decode cX6_prints 76 = .ok (.if_icmp .ne 8, 3) := by decide +kernel
theorem dX6_prints_79 : decode cX6_prints 79 = .ok (.bipush 59, 2) := by decide +kernel
theorem dX6_prints_81 : decode cX6_prints 81 = .ok (.goto 5, 3) := by decide +kernel
theorem dX6_prints_84 : decode cX6_prints 84 = .ok (.bipush 44, 2) := by decide +kernel
theorem dX6_prints_86 : decode cX6_prints 86 = .ok (.invokevirtual 113, 3) := by decide +kernel
theorem dX6_prints_89 : decode cX6_prints 89 = .ok (.istore 4, 2) := by decide +kernel
theorem dX6_prints_91 : decode cX6_prints 91 = .ok (.iinc 5 1, 3) := by decide +kernel
theorem dX6_prints_94 : decode cX6_prints 94 = .ok (.goto (-46), 3) := by decide +kernel
theorem dX6_prints_97 : decode cX6_prints 97 = .ok (.iload 4, 2) := by decide +kernel
theorem dX6_prints_99 : decode cX6_prints 99 = .ok (.ireturn, 1) := by decide +kernel
theorem dX6_puts_0 : decode cX6_puts 0 = .ok (.iload_n 1, 1) := by decide +kernel
theorem dX6_puts_1 : decode cX6_puts 1 = .ok (.istore 4, 2) := by decide +kernel
theorem dX6_puts_3 : decode cX6_puts 3 = .ok (.iload_n 2, 1) := by decide +kernel
theorem dX6_puts_4 : decode cX6_puts 4 = .ok (.bipush 9, 2) := by decide +kernel
theorem dX6_puts_6 : decode cX6_puts 6 = .ok (.if_icmp .le 20, 3) := by decide +kernel
theorem dX6_puts_9 : decode cX6_puts 9 = .ok (.aload_n 0, 1) := by decide +kernel
theorem dX6_puts_10 : decode cX6_puts 10 = .ok (.getfield 23, 3) := by decide +kernel
theorem dX6_puts_13 : decode cX6_puts 13 = .ok (.iload 4, 2) := by decide +kernel
theorem dX6_puts_15 : decode cX6_puts 15 = .ok (.bipush 48, 2) := by decide +kernel
theorem dX6_puts_17 : decode cX6_puts 17 = .ok (.iload_n 2, 1) := by decide +kernel
theorem dX6_puts_18 : decode cX6_puts 18 = .ok (.bipush 10, 2) := by decide +kernel
theorem dX6_puts_20 : decode cX6_puts 20 = .ok (.idiv, 1) := by decide +kernel
theorem dX6_puts_21 : decode cX6_puts 21 = .ok (.iadd, 1) := by decide +kernel
theorem dX6_puts_22 : decode cX6_puts 22 = .ok (.iastore, 1) := by decide +kernel
theorem dX6_puts_23 : decode cX6_puts 23 = .ok (.iinc 4 1, 3) := by decide +kernel
theorem dX6_puts_26 : decode cX6_puts 26 = .ok (.aload_n 0, 1) := by decide +kernel
theorem dX6_puts_27 : decode cX6_puts 27 = .ok (.getfield 23, 3) := by decide +kernel
theorem dX6_puts_30 : decode cX6_puts 30 = .ok (.iload 4, 2) := by decide +kernel
theorem dX6_puts_32 : decode cX6_puts 32 = .ok (.bipush 48, 2) := by decide +kernel
theorem dX6_puts_34 : decode cX6_puts 34 = .ok (.iload_n 2, 1) := by decide +kernel
theorem dX6_puts_35 : decode cX6_puts 35 = .ok (.bipush 10, 2) := by decide +kernel
theorem dX6_puts_37 : decode cX6_puts 37 = .ok (.irem, 1) := by decide +kernel
theorem dX6_puts_38 : decode cX6_puts 38 = .ok (.iadd, 1) := by decide +kernel
theorem dX6_puts_39 : decode cX6_puts 39 = .ok (.iastore, 1) := by decide +kernel
theorem dX6_puts_40 : decode cX6_puts 40 = .ok (.aload_n 0, 1) := by decide +kernel
theorem dX6_puts_41 : decode cX6_puts 41 = .ok (.getfield 23, 3) := by decide +kernel
theorem dX6_puts_44 : decode cX6_puts 44 = .ok (.iload 4, 2) := by decide +kernel
theorem dX6_puts_46 : decode cX6_puts 46 = .ok (.iconst 1, 1) := by decide +kernel
theorem dX6_puts_47 : decode cX6_puts 47 = .ok (.iadd, 1) := by decide +kernel
theorem dX6_puts_48 : decode cX6_puts 48 = .ok (.iload_n 3, 1) := by decide +kernel
theorem dX6_puts_49 : decode cX6_puts 49 = .ok (.iastore, 1) := by decide +kernel
theorem dX6_puts_50 : decode cX6_puts 50 = .ok (.iload 4, 2) := by decide +kernel
theorem dX6_puts_52 : decode cX6_puts 52 = .ok (.iconst 2, 1) := by decide +kernel
theorem dX6_puts_53 : decode cX6_puts 53 = .ok (.iadd, 1) := by decide +kernel
theorem dX6_puts_54 : decode cX6_puts 54 = .ok (.ireturn, 1) := by decide +kernel
theorem dX6_at_0 : decode cX6_at 0 = .ok (.iload_n 1, 1) := by decide +kernel
theorem dX6_at_1 : decode cX6_at 1 = .ok (.ifCond .lt 11, 3) := by decide +kernel
theorem dX6_at_4 : decode cX6_at 4 = .ok (.iload_n 1, 1) := by decide +kernel
theorem dX6_at_5 : decode cX6_at 5 = .ok (.aload_n 0, 1) := by decide +kernel
theorem dX6_at_6 : decode cX6_at 6 = .ok (.invokevirtual 119, 3) := by decide +kernel
theorem dX6_at_9 : decode cX6_at 9 = .ok (.if_icmp .lt 9, 3) := by decide +kernel
theorem dX6_at_12 : decode cX6_at 12 = .ok (.aload_n 0, 1) := by decide +kernel
theorem dX6_at_13 : decode cX6_at 13 = .ok (.iconst 1, 1) := by decide +kernel
theorem dX6_at_14 : decode cX6_at 14 = .ok (.invokevirtual 83, 3) := by decide +kernel
theorem dX6_at_17 : decode cX6_at 17 = .ok (.ireturn, 1) := by decide +kernel
theorem dX6_at_18 : decode cX6_at 18 = .ok (.aload_n 0, 1) := by decide +kernel
theorem dX6_at_19 : decode cX6_at 19 = .ok (.iconst 0, 1) := by decide +kernel
theorem dX6_at_20 : decode cX6_at 20 = .ok (.putfield 26, 3) := by decide +kernel
theorem dX6_at_23 : decode cX6_at 23 = .ok (.iload_n 1, 1) := by decide +kernel
theorem dX6_at_24 : decode cX6_at 24 = .ok (.istore_n 2, 1) := by decide +kernel
theorem dX6_at_25 : decode cX6_at 25 = .ok (.iconst 0, 1) := by decide +kernel
theorem dX6_at_26 : decode cX6_at 26 = .ok (.istore_n 3, 1) := by decide +kernel
theorem dX6_at_27 : decode cX6_at 27 = .ok (.aload_n 0, 1) := by decide +kernel
theorem dX6_at_28 : decode cX6_at 28 = .ok (.aload_n 0, 1) := by decide +kernel
theorem dX6_at_29 : decode cX6_at 29 = .ok (.iconst 0, 1) := by decide +kernel
theorem dX6_at_30 : decode cX6_at 30 = .ok (.invokevirtual 123, 3) := by decide +kernel
theorem dX6_at_33 : decode cX6_at 33 = .ok (.invokevirtual 116, 3) := by decide +kernel
theorem dX6_at_36 : decode cX6_at 36 = .ok (.istore 4, 2) := by decide +kernel
theorem dX6_at_38 : decode cX6_at 38 = .ok (.iload_n 2, 1) := by decide +kernel
theorem dX6_at_39 : decode cX6_at 39 = .ok (.iload 4, 2) := by decide +kernel
theorem dX6_at_41 : decode cX6_at 41 = .ok (.if_icmp .lt 25, 3) := by decide +kernel
theorem dX6_at_44 : decode cX6_at 44 = .ok (.iload_n 2, 1) := by decide +kernel
theorem dX6_at_45 : decode cX6_at 45 = .ok (.iload 4, 2) := by decide +kernel
theorem dX6_at_47 : decode cX6_at 47 = .ok (.isub, 1) := by decide +kernel
theorem dX6_at_48 : decode cX6_at 48 = .ok (.istore_n 2, 1) := by decide +kernel
theorem dX6_at_49 : decode cX6_at 49 = .ok (.iinc 3 1, 3) := by decide +kernel
theorem dX6_at_52 : decode cX6_at 52 = .ok (.aload_n 0, 1) := by decide +kernel
theorem dX6_at_53 : decode cX6_at 53 = .ok (.aload_n 0, 1) := by decide +kernel
theorem dX6_at_54 : decode cX6_at 54 = .ok (.iload_n 3, 1) := by decide +kernel
theorem dX6_at_55 : decode cX6_at 55 = .ok (.invokevirtual 123, 3) := by decide +kernel
theorem dX6_at_58 : decode cX6_at 58 = .ok (.invokevirtual 116, 3) := by decide +kernel
theorem dX6_at_61 : decode cX6_at 61 = .ok (.istore 4, 2) := by decide +kernel
theorem dX6_at_63 : decode cX6_at 63 = .ok (.goto (-25), 3) := by decide +kernel
theorem dX6_at_66 : decode cX6_at 66 = .ok (.aload_n 0, 1) := by decide +kernel
theorem dX6_at_67 : decode cX6_at 67 = .ok (.getfield 23, 3) := by decide +kernel
theorem dX6_at_70 : decode cX6_at 70 = .ok (.iload_n 2, 1) := by decide +kernel
theorem dX6_at_71 : decode cX6_at 71 = .ok (.iaload, 1) := by decide +kernel
theorem dX6_at_72 : decode cX6_at 72 = .ok (.ireturn, 1) := by decide +kernel
theorem dX6_order_0 : decode cX6_order 0 = .ok (.iconst 0, 1) := by decide +kernel
theorem dX6_order_1 : decode cX6_order 1 = .ok (.istore_n 2, 1) := by decide +kernel
theorem dX6_order_2 : decode cX6_order 2 = .ok (.iconst 0, 1) := by decide +kernel
theorem dX6_order_3 : decode cX6_order 3 = .ok (.istore_n 3, 1) := by decide +kernel
theorem dX6_order_4 : decode cX6_order 4 = .ok (.iload_n 3, 1) := by decide +kernel
theorem dX6_order_5 : decode cX6_order 5 = .ok (.aload_n 0, 1) := by decide +kernel
theorem dX6_order_6 : decode cX6_order 6 = .ok (.getfield 86, 3) := by decide +kernel
theorem dX6_order_9 : decode cX6_order 9 = .ok (.if_icmp .ge 109, 3) := by decide +kernel
theorem dX6_order_12 : decode cX6_order 12 = .ok (.iconst 0, 1) := by decide +kernel
theorem dX6_order_13 : decode cX6_order 13 = .ok (.istore 4, 2) := by decide +kernel
theorem dX6_order_15 : decode cX6_order 15 = .ok (.iconst 0, 1) := by decide +kernel
theorem dX6_order_16 : decode cX6_order 16 = .ok (.istore 5, 2) := by decide +kernel
theorem dX6_order_18 : decode cX6_order 18 = .ok (.iload 5, 2) := by decide +kernel
theorem dX6_order_20 : decode cX6_order 20 = .ok (.aload_n 0, 1) := by decide +kernel
theorem dX6_order_21 : decode cX6_order 21 = .ok (.getfield 86, 3) := by decide +kernel
theorem dX6_order_24 : decode cX6_order 24 = .ok (.if_icmp .ge 76, 3) := by decide +kernel
theorem dX6_order_27 : decode cX6_order 27 = .ok (.bipush 100, 2) := by decide +kernel
theorem dX6_order_29 : decode cX6_order 29 = .ok (.aload_n 0, 1) := by decide +kernel
theorem dX6_order_30 : decode cX6_order 30 = .ok (.getfield 17, 3) := by decide +kernel
theorem dX6_order_33 : decode cX6_order 33 = .ok (.bipush 6, 2) := by decide +kernel
theorem dX6_order_35 : decode cX6_order 35 = .ok (.iload 5, 2) := by decide +kernel
theorem dX6_order_37 : decode cX6_order 37 = .ok (.imul, 1) := by decide +kernel
theorem dX6_order_38 : decode cX6_order 38 = .ok (.iaload, 1) := by decide +kernel
theorem dX6_order_39 : decode cX6_order 39 = .ok (.imul, 1) := by decide +kernel
theorem dX6_order_40 : decode cX6_order 40 = .ok (.aload_n 0, 1) := by decide +kernel
theorem dX6_order_41 : decode cX6_order 41 = .ok (.getfield 17, 3) := by decide +kernel
theorem dX6_order_44 : decode cX6_order 44 = .ok (.bipush 6, 2) := by decide +kernel
theorem dX6_order_46 : decode cX6_order 46 = .ok (.iload 5, 2) := by decide +kernel
theorem dX6_order_48 : decode cX6_order 48 = .ok (.imul, 1) := by decide +kernel
theorem dX6_order_49 : decode cX6_order 49 = .ok (.iconst 1, 1) := by decide +kernel
theorem dX6_order_50 : decode cX6_order 50 = .ok (.iadd, 1) := by decide +kernel
theorem dX6_order_51 : decode cX6_order 51 = .ok (.iaload, 1) := by decide +kernel
theorem dX6_order_52 : decode cX6_order 52 = .ok (.iadd, 1) := by decide +kernel
theorem dX6_order_53 : decode cX6_order 53 = .ok (.istore 6, 2) := by decide +kernel
theorem dX6_order_55 : decode cX6_order 55 = .ok (.iload 4, 2) := by decide +kernel
theorem dX6_order_57 : decode cX6_order 57 = .ok (.iload 6, 2) := by decide +kernel
theorem dX6_order_59 : decode cX6_order 59 = .ok (.bipush 100, 2) := by decide +kernel
theorem dX6_order_61 : decode cX6_order 61 = .ok (.aload_n 0, 1) := by decide +kernel
theorem dX6_order_62 : decode cX6_order 62 = .ok (.getfield 17, 3) := by decide +kernel
theorem dX6_order_65 : decode cX6_order 65 = .ok (.bipush 6, 2) := by decide +kernel
theorem dX6_order_67 : decode cX6_order 67 = .ok (.iload_n 3, 1) := by decide +kernel
theorem dX6_order_68 : decode cX6_order 68 = .ok (.imul, 1) := by decide +kernel
theorem dX6_order_69 : decode cX6_order 69 = .ok (.iaload, 1) := by decide +kernel
theorem dX6_order_70 : decode cX6_order 70 = .ok (.imul, 1) := by decide +kernel
theorem dX6_order_71 : decode cX6_order 71 = .ok (.aload_n 0, 1) := by decide +kernel
theorem dX6_order_72 : decode cX6_order 72 = .ok (.getfield 17, 3) := by decide +kernel
theorem dX6_order_75 : decode cX6_order 75 = .ok (.bipush 6, 2) := by decide +kernel
theorem dX6_order_77 : decode cX6_order 77 = .ok (.iload_n 3, 1) := by decide +kernel
theorem dX6_order_78 : decode cX6_order 78 = .ok (.imul, 1) := by decide +kernel
theorem dX6_order_79 : decode cX6_order 79 = .ok (.iconst 1, 1) := by decide +kernel
theorem dX6_order_80 : decode cX6_order 80 = .ok (.iadd, 1) := by decide +kernel
theorem dX6_order_81 : decode cX6_order 81 = .ok (.iaload, 1) := by decide +kernel
theorem dX6_order_82 : decode cX6_order 82 = .ok (.iadd, 1) := by decide +kernel
theorem dX6_order_83 : decode cX6_order 83 = .ok (.if_icmp .ge 7, 3) := by decide +kernel
theorem dX6_order_86 : decode cX6_order 86 = .ok (.iconst 1, 1) := by decide +kernel
theorem dX6_order_87 : decode cX6_order 87 = .ok (.goto 4, 3) := by decide +kernel
theorem dX6_order_90 : decode cX6_order 90 = .ok (.iconst 0, 1) := by decide +kernel
theorem dX6_order_91 : decode cX6_order 91 = .ok (.iadd, 1) := by decide +kernel
theorem dX6_order_92 : decode cX6_order 92 = .ok (.istore 4, 2) := by decide +kernel
theorem dX6_order_94 : decode cX6_order 94 = .ok (.iinc 5 1, 3) := by decide +kernel
theorem dX6_order_97 : decode cX6_order 97 = .ok (.goto (-79), 3) := by decide +kernel
theorem dX6_order_100 : decode cX6_order 100 = .ok (.iload 4, 2) := by decide +kernel
theorem dX6_order_102 : decode cX6_order 102 = .ok (.iload_n 1, 1) := by decide +kernel
theorem dX6_order_103 : decode cX6_order 103 = .ok (.if_icmp .ne 7, 3) := by decide +kernel
theorem dX6_order_106 : decode cX6_order 106 = .ok (.iload_n 3, 1) := by decide +kernel
theorem dX6_order_107 : decode cX6_order 107 = .ok (.goto 4, 3) := by decide +kernel
theorem dX6_order_110 : decode cX6_order 110 = .ok (.iload_n 2, 1) := by decide +kernel
theorem dX6_order_111 : decode cX6_order 111 = .ok (.istore_n 2, 1) := by decide +kernel
theorem dX6_order_112 : decode cX6_order 112 = .ok (.iinc 3 1, 3) := by decide +kernel
theorem dX6_order_115 : decode cX6_order 115 = .ok (.goto (-111), 3) := by decide +kernel
theorem dX6_order_118 : decode cX6_order 118 = .ok (.iload_n 2, 1) := by decide +kernel
theorem dX6_order_119 : decode cX6_order 119 = .ok (.ireturn, 1) := by decide +kernel
theorem dX6_keep_0 : decode cX6_keep 0 = .ok (.aload_n 0, 1) := by decide +kernel
theorem dX6_keep_1 : decode cX6_keep 1 = .ok (.iconst 0, 1) := by decide +kernel
theorem dX6_keep_2 : decode cX6_keep 2 = .ok (.putfield 26, 3) := by decide +kernel
theorem dX6_keep_5 : decode cX6_keep 5 = .ok (.aload_n 0, 1) := by decide +kernel
theorem dX6_keep_6 : decode cX6_keep 6 = .ok (.aload_n 0, 1) := by decide +kernel
theorem dX6_keep_7 : decode cX6_keep 7 = .ok (.getfield 86, 3) := by decide +kernel
theorem dX6_keep_10 : decode cX6_keep 10 = .ok (.putfield 126, 3) := by decide +kernel
theorem dX6_keep_13 : decode cX6_keep 13 = .ok (.aload_n 0, 1) := by decide +kernel
theorem dX6_keep_14 : decode cX6_keep 14 = .ok (.iconst 0, 1) := by decide +kernel
theorem dX6_keep_15 : decode cX6_keep 15 = .ok (.sipush 300, 3) := by decide +kernel
theorem dX6_keep_18 : decode cX6_keep 18 = .ok (.aload_n 0, 1) := by decide +kernel
theorem dX6_keep_19 : decode cX6_keep 19 = .ok (.getfield 126, 3) := by decide +kernel
theorem dX6_keep_22 : decode cX6_keep 22 = .ok (.invokevirtual 89, 3) := by decide +kernel
theorem dX6_keep_25 : decode cX6_keep 25 = .ok (.aload_n 0, 1) := by decide +kernel
theorem dX6_keep_26 : decode cX6_keep 26 = .ok (.getfield 126, 3) := by decide +kernel
theorem dX6_keep_29 : decode cX6_keep 29 = .ok (.ireturn, 1) := by decide +kernel
theorem dX6_compare_0 : decode cX6_compare 0 = .ok (.aload_n 0, 1) := by decide +kernel
theorem dX6_compare_1 : decode cX6_compare 1 = .ok (.iconst 0, 1) := by decide +kernel
theorem dX6_compare_2 : decode cX6_compare 2 = .ok (.putfield 26, 3) := by decide +kernel
theorem dX6_compare_5 : decode cX6_compare 5 = .ok (.iconst 0, 1) := by decide +kernel
theorem dX6_compare_6 : decode cX6_compare 6 = .ok (.istore_n 1, 1) := by decide +kernel
theorem dX6_compare_7 : decode cX6_compare 7 = .ok (.iconst 0, 1) := by decide +kernel
theorem dX6_compare_8 : decode cX6_compare 8 = .ok (.istore_n 2, 1) := by decide +kernel
theorem dX6_compare_9 : decode cX6_compare 9 = .ok (.iconst 0, 1) := by decide +kernel
theorem dX6_compare_10 : decode cX6_compare 10 = .ok (.istore_n 3, 1) := by decide +kernel
theorem dX6_compare_11 : decode cX6_compare 11 = .ok (.iload_n 3, 1) := by decide +kernel
theorem dX6_compare_12 : decode cX6_compare 12 = .ok (.aload_n 0, 1) := by decide +kernel
theorem dX6_compare_13 : decode cX6_compare 13 = .ok (.getfield 86, 3) := by decide +kernel
theorem dX6_compare_16 : decode cX6_compare 16 = .ok (.if_icmp .ge 97, 3) := by decide +kernel
theorem dX6_compare_19 : decode cX6_compare 19 = .ok (.aload_n 0, 1) := by decide +kernel
theorem dX6_compare_20 : decode cX6_compare 20 = .ok (.sipush 300, 3) := by decide +kernel
theorem dX6_compare_23 : decode cX6_compare 23 = .ok (.aload_n 0, 1) := by decide +kernel
theorem dX6_compare_24 : decode cX6_compare 24 = .ok (.getfield 126, 3) := by decide +kernel
theorem dX6_compare_27 : decode cX6_compare 27 = .ok (.aload_n 0, 1) := by decide +kernel
theorem dX6_compare_28 : decode cX6_compare 28 = .ok (.getfield 17, 3) := by decide +kernel
theorem dX6_compare_31 : decode cX6_compare 31 = .ok (.bipush 6, 2) := by decide +kernel
theorem dX6_compare_33 : decode cX6_compare 33 = .ok (.iload_n 3, 1) := by decide +kernel
theorem dX6_compare_34 : decode cX6_compare 34 = .ok (.imul, 1) := by decide +kernel
theorem dX6_compare_35 : decode cX6_compare 35 = .ok (.iaload, 1) := by decide +kernel
theorem dX6_compare_36 : decode cX6_compare 36 = .ok (.aload_n 0, 1) := by decide +kernel
theorem dX6_compare_37 : decode cX6_compare 37 = .ok (.getfield 17, 3) := by decide +kernel
theorem dX6_compare_40 : decode cX6_compare 40 = .ok (.bipush 6, 2) := by decide +kernel
theorem dX6_compare_42 : decode cX6_compare 42 = .ok (.iload_n 3, 1) := by decide +kernel
theorem dX6_compare_43 : decode cX6_compare 43 = .ok (.imul, 1) := by decide +kernel
theorem dX6_compare_44 : decode cX6_compare 44 = .ok (.iconst 1, 1) := by decide +kernel
theorem dX6_compare_45 : decode cX6_compare 45 = .ok (.iadd, 1) := by decide +kernel
theorem dX6_compare_46 : decode cX6_compare 46 = .ok (.iaload, 1) := by decide +kernel
theorem dX6_compare_47 : decode cX6_compare 47 = .ok (.invokevirtual 53, 3) := by decide +kernel
theorem dX6_compare_50 : decode cX6_compare 50 = .ok (.istore 4, 2) := by decide +kernel
theorem dX6_compare_52 : decode cX6_compare 52 = .ok (.iload_n 1, 1) := by decide +kernel
theorem dX6_compare_53 : decode cX6_compare 53 = .ok (.iload 4, 2) := by decide +kernel
theorem dX6_compare_55 : decode cX6_compare 55 = .ok (.ifCond .lt 32, 3) := by decide +kernel
theorem dX6_compare_58 : decode cX6_compare 58 = .ok (.aload_n 0, 1) := by decide +kernel
theorem dX6_compare_59 : decode cX6_compare 59 = .ok (.bipush 6, 2) := by decide +kernel
theorem dX6_compare_61 : decode cX6_compare 61 = .ok (.iload_n 3, 1) := by decide +kernel
theorem dX6_compare_62 : decode cX6_compare 62 = .ok (.imul, 1) := by decide +kernel
theorem dX6_compare_63 : decode cX6_compare 63 = .ok (.sipush 300, 3) := by decide +kernel
theorem dX6_compare_66 : decode cX6_compare 66 = .ok (.bipush 6, 2) := by decide +kernel
theorem dX6_compare_68 : decode cX6_compare 68 = .ok (.iload 4, 2) := by decide +kernel
theorem dX6_compare_70 : decode cX6_compare 70 = .ok (.ifCond .ge 7, 3) := by decide +kernel
theorem dX6_compare_73 : decode cX6_compare 73 = .ok (.iconst 0, 1) := by decide +kernel
theorem dX6_compare_74 : decode cX6_compare 74 = .ok (.goto 5, 3) := by decide +kernel
theorem dX6_compare_77 : decode cX6_compare 77 = .ok (.iload 4, 2) := by decide +kernel
theorem dX6_compare_79 : decode cX6_compare 79 = .ok (.imul, 1) := by decide +kernel
theorem dX6_compare_80 : decode cX6_compare 80 = .ok (.iadd, 1) := by decide +kernel
theorem dX6_compare_81 : decode cX6_compare 81 = .ok (.invokevirtual 129, 3) := by decide +kernel
theorem dX6_compare_84 : decode cX6_compare 84 = .ok (.ifCond .ne 7, 3) := by decide +kernel
theorem dX6_compare_87 : decode cX6_compare 87 = .ok (.iconst 1, 1) := by decide +kernel
theorem dX6_compare_88 : decode cX6_compare 88 = .ok (.goto 4, 3) := by decide +kernel
theorem dX6_compare_91 : decode cX6_compare 91 = .ok (.iconst 0, 1) := by decide +kernel
theorem dX6_compare_92 : decode cX6_compare 92 = .ok (.iadd, 1) := by decide +kernel
theorem dX6_compare_93 : decode cX6_compare 93 = .ok (.istore_n 1, 1) := by decide +kernel
theorem dX6_compare_94 : decode cX6_compare 94 = .ok (.iload_n 2, 1) := by decide +kernel
theorem dX6_compare_95 : decode cX6_compare 95 = .ok (.iload 4, 2) := by decide +kernel
theorem dX6_compare_97 : decode cX6_compare 97 = .ok (.ifCond .ge 7, 3) := by decide +kernel
theorem dX6_compare_100 : decode cX6_compare 100 = .ok (.iconst 0, 1) := by decide +kernel
theorem dX6_compare_101 : decode cX6_compare 101 = .ok (.goto 4, 3) := by decide +kernel
theorem dX6_compare_104 : decode cX6_compare 104 = .ok (.iconst 1, 1) := by decide +kernel
theorem dX6_compare_105 : decode cX6_compare 105 = .ok (.iadd, 1) := by decide +kernel
theorem dX6_compare_106 : decode cX6_compare 106 = .ok (.istore_n 2, 1) := by decide +kernel
theorem dX6_compare_107 : decode cX6_compare 107 = .ok (.iinc 3 1, 3) := by decide +kernel
theorem dX6_compare_110 : decode cX6_compare 110 = .ok (.goto (-99), 3) := by decide +kernel
theorem dX6_compare_113 : decode cX6_compare 113 = .ok (.iload_n 1, 1) := by decide +kernel
theorem dX6_compare_114 : decode cX6_compare 114 = .ok (.aload_n 0, 1) := by decide +kernel
theorem dX6_compare_115 : decode cX6_compare 115 = .ok (.getfield 126, 3) := by decide +kernel
theorem dX6_compare_118 : decode cX6_compare 118 = .ok (.iadd, 1) := by decide +kernel
theorem dX6_compare_119 : decode cX6_compare 119 = .ok (.iload_n 2, 1) := by decide +kernel
theorem dX6_compare_120 : decode cX6_compare 120 = .ok (.isub, 1) := by decide +kernel
theorem dX6_compare_121 : decode cX6_compare 121 = .ok (.ireturn, 1) := by decide +kernel
theorem dX6_isAlike_0 : decode cX6_isAlike 0 = .ok (.iconst 1, 1) := by decide +kernel
theorem dX6_isAlike_1 : decode cX6_isAlike 1 = .ok (.istore_n 3, 1) := by decide +kernel
theorem dX6_isAlike_2 : decode cX6_isAlike 2 = .ok (.iconst 0, 1) := by decide +kernel
theorem dX6_isAlike_3 : decode cX6_isAlike 3 = .ok (.istore 4, 2) := by decide +kernel
theorem dX6_isAlike_5 : decode cX6_isAlike 5 = .ok (.iload 4, 2) := by decide +kernel
theorem dX6_isAlike_7 : decode cX6_isAlike 7 = .ok (.bipush 6, 2) := by decide +kernel
theorem dX6_isAlike_9 : decode cX6_isAlike 9 = .ok (.if_icmp .ge 40, 3) := by decide +kernel
theorem dX6_isAlike_12 : decode cX6_isAlike 12 = .ok (.iload_n 3, 1) := by decide +kernel
theorem dX6_isAlike_13 : decode cX6_isAlike 13 = .ok (.ifCond .eq 28, 3) := by decide +kernel
theorem dX6_isAlike_16 : decode cX6_isAlike 16 = .ok (.aload_n 0, 1) := by decide +kernel
theorem dX6_isAlike_17 : decode cX6_isAlike 17 = .ok (.getfield 17, 3) := by decide +kernel
theorem dX6_isAlike_20 : decode cX6_isAlike 20 = .ok (.iload_n 1, 1) := by decide +kernel
theorem dX6_isAlike_21 : decode cX6_isAlike 21 = .ok (.iload 4, 2) := by decide +kernel
theorem dX6_isAlike_23 : decode cX6_isAlike 23 = .ok (.iadd, 1) := by decide +kernel
theorem dX6_isAlike_24 : decode cX6_isAlike 24 = .ok (.iaload, 1) := by decide +kernel
theorem dX6_isAlike_25 : decode cX6_isAlike 25 = .ok (.aload_n 0, 1) := by decide +kernel
theorem dX6_isAlike_26 : decode cX6_isAlike 26 = .ok (.getfield 17, 3) := by decide +kernel
theorem dX6_isAlike_29 : decode cX6_isAlike 29 = .ok (.iload_n 2, 1) := by decide +kernel
theorem dX6_isAlike_30 : decode cX6_isAlike 30 = .ok (.iload 4, 2) := by decide +kernel
theorem dX6_isAlike_32 : decode cX6_isAlike 32 = .ok (.iadd, 1) := by decide +kernel
theorem dX6_isAlike_33 : decode cX6_isAlike 33 = .ok (.iaload, 1) := by decide +kernel
theorem dX6_isAlike_34 : decode cX6_isAlike 34 = .ok (.if_icmp .ne 7, 3) := by decide +kernel
