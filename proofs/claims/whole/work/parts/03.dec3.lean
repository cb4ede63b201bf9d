theorem dX6_kindOf_2 : decode cX6_kindOf 2 = .ok (.iconst 0, 1) := by decide +kernel
theorem dX6_kindOf_3 : decode cX6_kindOf 3 = .ok (.istore_n 2, 1) := by decide +kernel
theorem dX6_kindOf_4 : decode cX6_kindOf 4 = .ok (.iload_n 2, 1) := by decide +kernel
theorem dX6_kindOf_5 : decode cX6_kindOf 5 = .ok (.bipush 6, 2) := by decide +kernel
theorem dX6_kindOf_7 : decode cX6_kindOf 7 = .ok (.if_icmp .ge 23, 3) := by decide +kernel
theorem dX6_kindOf_10 : decode cX6_kindOf 10 = .ok (.iload_n 2, 1) := by decide +kernel
theorem dX6_kindOf_11 : decode cX6_kindOf 11 = .ok (.invokestatic 29, 3) := by decide +kernel
theorem dX6_kindOf_14 : decode cX6_kindOf 14 = .ok (.iload_n 0, 1) := by decide +kernel
theorem dX6_kindOf_15 : decode cX6_kindOf 15 = .ok (.if_icmp .ne 7, 3) := by decide +kernel
theorem dX6_kindOf_18 : decode cX6_kindOf 18 = .ok (.iload_n 2, 1) := by decide +kernel
theorem dX6_kindOf_19 : decode cX6_kindOf 19 = .ok (.goto 4, 3) := by decide +kernel
theorem dX6_kindOf_22 : decode cX6_kindOf 22 = .ok (.iload_n 1, 1) := by decide +kernel
theorem dX6_kindOf_23 : decode cX6_kindOf 23 = .ok (.istore_n 1, 1) := by decide +kernel
theorem dX6_kindOf_24 : decode cX6_kindOf 24 = .ok (.iinc 2 1, 3) := by decide +kernel
theorem dX6_kindOf_27 : decode cX6_kindOf 27 = .ok (.goto (-23), 3) := by decide +kernel
theorem dX6_kindOf_30 : decode cX6_kindOf 30 = .ok (.iload_n 1, 1) := by decide +kernel
theorem dX6_kindOf_31 : decode cX6_kindOf 31 = .ok (.ireturn, 1) := by decide +kernel
theorem dX6_letterOf_0 : decode cX6_letterOf 0 = .ok (.iload_n 0, 1) := by decide +kernel
theorem dX6_letterOf_1 : decode cX6_letterOf 1 = .ok (.tableswitch 50 0 4 #[35, 38, 41, 44, 47], 35) := by decide +kernel
theorem dX6_letterOf_36 : decode cX6_letterOf 36 = .ok (.bipush 67, 2) := by decide +kernel
theorem dX6_letterOf_38 : decode cX6_letterOf 38 = .ok (.ireturn, 1) := by decide +kernel
theorem dX6_letterOf_39 : decode cX6_letterOf 39 = .ok (.bipush 76, 2) := by decide +kernel
theorem dX6_letterOf_41 : decode cX6_letterOf 41 = .ok (.ireturn, 1) := by decide +kernel
theorem dX6_letterOf_42 : decode cX6_letterOf 42 = .ok (.bipush 66, 2) := by decide +kernel
theorem dX6_letterOf_44 : decode cX6_letterOf 44 = .ok (.ireturn, 1) := by decide +kernel
theorem dX6_letterOf_45 : decode cX6_letterOf 45 = .ok (.bipush 89, 2) := by decide +kernel
theorem dX6_letterOf_47 : decode cX6_letterOf 47 = .ok (.ireturn, 1) := by decide +kernel
theorem dX6_letterOf_48 : decode cX6_letterOf 48 = .ok (.bipush 82, 2) := by decide +kernel
theorem dX6_letterOf_50 : decode cX6_letterOf 50 = .ok (.ireturn, 1) := by decide +kernel
theorem dX6_letterOf_51 : decode cX6_letterOf 51 = .ok (.bipush 71, 2) := by decide +kernel
theorem dX6_letterOf_53 : decode cX6_letterOf 53 = .ok (.ireturn, 1) := by decide +kernel
theorem dX6_fails_0 : decode cX6_fails 0 = .ok (.aload_n 0, 1) := by decide +kernel
theorem dX6_fails_1 : decode cX6_fails 1 = .ok (.iload_n 1, 1) := by decide +kernel
theorem dX6_fails_2 : decode cX6_fails 2 = .ok (.putfield 40, 3) := by decide +kernel
theorem dX6_fails_5 : decode cX6_fails 5 = .ok (.aload_n 0, 1) := by decide +kernel
theorem dX6_fails_6 : decode cX6_fails 6 = .ok (.iload_n 2, 1) := by decide +kernel
theorem dX6_fails_7 : decode cX6_fails 7 = .ok (.putfield 13, 3) := by decide +kernel
theorem dX6_fails_10 : decode cX6_fails 10 = .ok (.iconst (-1), 1) := by decide +kernel
theorem dX6_fails_11 : decode cX6_fails 11 = .ok (.ireturn, 1) := by decide +kernel
theorem dX6_readsNumber_0 : decode cX6_readsNumber 0 = .ok (.aload_n 0, 1) := by decide +kernel
theorem dX6_readsNumber_1 : decode cX6_readsNumber 1 = .ok (.iload_n 1, 1) := by decide +kernel
theorem dX6_readsNumber_2 : decode cX6_readsNumber 2 = .ok (.invokevirtual 60, 3) := by decide +kernel
theorem dX6_readsNumber_5 : decode cX6_readsNumber 5 = .ok (.istore 4, 2) := by decide +kernel
theorem dX6_readsNumber_7 : decode cX6_readsNumber 7 = .ok (.iload 4, 2) := by decide +kernel
theorem dX6_readsNumber_9 : decode cX6_readsNumber 9 = .ok (.ifCond .ge 10, 3) := by decide +kernel
theorem dX6_readsNumber_12 : decode cX6_readsNumber 12 = .ok (.aload_n 0, 1) := by decide +kernel
theorem dX6_readsNumber_13 : decode cX6_readsNumber 13 = .ok (.iconst 1, 1) := by decide +kernel
theorem dX6_readsNumber_14 : decode cX6_readsNumber 14 = .ok (.iload_n 1, 1) := by decide +kernel
theorem dX6_readsNumber_15 : decode cX6_readsNumber 15 = .ok (.invokevirtual 63, 3) := by decide +kernel
theorem dX6_readsNumber_18 : decode cX6_readsNumber 18 = .ok (.ireturn, 1) := by decide +kernel
theorem dX6_readsNumber_19 : decode cX6_readsNumber 19 = .ok (.aload_n 0, 1) := by decide +kernel
theorem dX6_readsNumber_20 : decode cX6_readsNumber 20 = .ok (.iload_n 2, 1) := by decide +kernel
theorem dX6_readsNumber_21 : decode cX6_readsNumber 21 = .ok (.iload 4, 2) := by decide +kernel
theorem dX6_readsNumber_23 : decode cX6_readsNumber 23 = .ok (.invokevirtual 67, 3) := by decide +kernel
theorem dX6_readsNumber_26 : decode cX6_readsNumber 26 = .ok (.istore 5, 2) := by decide +kernel
theorem dX6_readsNumber_28 : decode cX6_readsNumber 28 = .ok (.iload 5, 2) := by decide +kernel
theorem dX6_readsNumber_30 : decode cX6_readsNumber 30 = .ok (.ifCond .le 11, 3) := by decide +kernel
theorem dX6_readsNumber_33 : decode cX6_readsNumber 33 = .ok (.aload_n 0, 1) := by decide +kernel
theorem dX6_readsNumber_34 : decode cX6_readsNumber 34 = .ok (.iload 5, 2) := by decide +kernel
theorem dX6_readsNumber_36 : decode cX6_readsNumber 36 = .ok (.iload_n 1, 1) := by decide +kernel
theorem dX6_readsNumber_37 : decode cX6_readsNumber 37 = .ok (.invokevirtual 63, 3) := by decide +kernel
theorem dX6_readsNumber_40 : decode cX6_readsNumber 40 = .ok (.ireturn, 1) := by decide +kernel
theorem dX6_readsNumber_41 : decode cX6_readsNumber 41 = .ok (.aload_n 0, 1) := by decide +kernel
theorem dX6_readsNumber_42 : decode cX6_readsNumber 42 = .ok (.getfield 17, 3) := by decide +kernel
theorem dX6_readsNumber_45 : decode cX6_readsNumber 45 = .ok (.sipush 600, 3) := by decide +kernel
theorem dX6_readsNumber_48 : decode cX6_readsNumber 48 = .ok (.bipush 6, 2) := by decide +kernel
theorem dX6_readsNumber_50 : decode cX6_readsNumber 50 = .ok (.aload_n 0, 1) := by decide +kernel
theorem dX6_readsNumber_51 : decode cX6_readsNumber 51 = .ok (.getfield 50, 3) := by decide +kernel
theorem dX6_readsNumber_54 : decode cX6_readsNumber 54 = .ok (.imul, 1) := by decide +kernel
theorem dX6_readsNumber_55 : decode cX6_readsNumber 55 = .ok (.iadd, 1) := by decide +kernel
theorem dX6_readsNumber_56 : decode cX6_readsNumber 56 = .ok (.iconst 2, 1) := by decide +kernel
theorem dX6_readsNumber_57 : decode cX6_readsNumber 57 = .ok (.iadd, 1) := by decide +kernel
theorem dX6_readsNumber_58 : decode cX6_readsNumber 58 = .ok (.iload_n 2, 1) := by decide +kernel
theorem dX6_readsNumber_59 : decode cX6_readsNumber 59 = .ok (.iadd, 1) := by decide +kernel
theorem dX6_readsNumber_60 : decode cX6_readsNumber 60 = .ok (.iload 4, 2) := by decide +kernel
theorem dX6_readsNumber_62 : decode cX6_readsNumber 62 = .ok (.iastore, 1) := by decide +kernel
theorem dX6_readsNumber_63 : decode cX6_readsNumber 63 = .ok (.aload_n 0, 1) := by decide +kernel
theorem dX6_readsNumber_64 : decode cX6_readsNumber 64 = .ok (.iload_n 1, 1) := by decide +kernel
theorem dX6_readsNumber_65 : decode cX6_readsNumber 65 = .ok (.iconst 1, 1) := by decide +kernel
theorem dX6_readsNumber_66 : decode cX6_readsNumber 66 = .ok (.iadd, 1) := by decide +kernel
theorem dX6_readsNumber_67 : decode cX6_readsNumber 67 = .ok (.invokevirtual 43, 3) := by decide +kernel
theorem dX6_readsNumber_70 : decode cX6_readsNumber 70 = .ok (.invokestatic 46, 3) := by decide +kernel
theorem dX6_readsNumber_73 : decode cX6_readsNumber 73 = .ok (.ifCond .eq 9, 3) := by decide +kernel
theorem dX6_readsNumber_76 : decode cX6_readsNumber 76 = .ok (.iload_n 1, 1) := by decide +kernel
theorem dX6_readsNumber_77 : decode cX6_readsNumber 77 = .ok (.iconst 2, 1) := by decide +kernel
theorem dX6_readsNumber_78 : decode cX6_readsNumber 78 = .ok (.iadd, 1) := by decide +kernel
theorem dX6_readsNumber_79 : decode cX6_readsNumber 79 = .ok (.goto 6, 3) := by decide +kernel
theorem dX6_readsNumber_82 : decode cX6_readsNumber 82 = .ok (.iload_n 1, 1) := by decide +kernel
theorem dX6_readsNumber_83 : decode cX6_readsNumber 83 = .ok (.iconst 1, 1) := by decide +kernel
theorem dX6_readsNumber_84 : decode cX6_readsNumber 84 = .ok (.iadd, 1) := by decide +kernel
theorem dX6_readsNumber_85 : decode cX6_readsNumber 85 = .ok (.istore 6, 2) := by decide +kernel
theorem dX6_readsNumber_87 : decode cX6_readsNumber 87 = .ok (.aload_n 0, 1) := by decide +kernel
theorem dX6_readsNumber_88 : decode cX6_readsNumber 88 = .ok (.iload 6, 2) := by decide +kernel
theorem dX6_readsNumber_90 : decode cX6_readsNumber 90 = .ok (.invokevirtual 43, 3) := by decide +kernel
theorem dX6_readsNumber_93 : decode cX6_readsNumber 93 = .ok (.iload_n 3, 1) := by decide +kernel
theorem dX6_readsNumber_94 : decode cX6_readsNumber 94 = .ok (.if_icmp .ne 10, 3) := by decide +kernel
theorem dX6_readsNumber_97 : decode cX6_readsNumber 97 = .ok (.iload 6, 2) := by decide +kernel
theorem dX6_readsNumber_99 : decode cX6_readsNumber 99 = .ok (.iconst 1, 1) := by decide +kernel
theorem dX6_readsNumber_100 : decode cX6_readsNumber 100 = .ok (.iadd, 1) := by decide +kernel
theorem dX6_readsNumber_101 : decode cX6_readsNumber 101 = .ok (.goto 10, 3) := by decide +kernel
theorem dX6_readsNumber_104 : decode cX6_readsNumber 104 = .ok (.aload_n 0, 1) := by decide +kernel
theorem dX6_readsNumber_105 : decode cX6_readsNumber 105 = .ok (.iconst 1, 1) := by decide +kernel
theorem dX6_readsNumber_106 : decode cX6_readsNumber 106 = .ok (.iload 6, 2) := by decide +kernel
theorem dX6_readsNumber_108 : decode cX6_readsNumber 108 = .ok (.invokevirtual 63, 3) := by decide +kernel
theorem dX6_readsNumber_111 : decode cX6_readsNumber 111 = .ok (.ireturn, 1) := by decide +kernel
theorem dX6_numberAt_0 : decode cX6_numberAt 0 = .ok (.aload_n 0, 1) := by decide +kernel
theorem dX6_numberAt_1 : decode cX6_numberAt 1 = .ok (.iload_n 1, 1) := by decide +kernel
theorem dX6_numberAt_2 : decode cX6_numberAt 2 = .ok (.invokevirtual 43, 3) := by decide +kernel
theorem dX6_numberAt_5 : decode cX6_numberAt 5 = .ok (.istore_n 2, 1) := by decide +kernel
theorem dX6_numberAt_6 : decode cX6_numberAt 6 = .ok (.aload_n 0, 1) := by decide +kernel
theorem dX6_numberAt_7 : decode cX6_numberAt 7 = .ok (.iload_n 1, 1) := by decide +kernel
theorem dX6_numberAt_8 : decode cX6_numberAt 8 = .ok (.iconst 1, 1) := by decide +kernel
theorem dX6_numberAt_9 : decode cX6_numberAt 9 = .ok (.iadd, 1) := by decide +kernel
theorem dX6_numberAt_10 : decode cX6_numberAt 10 = .ok (.invokevirtual 43, 3) := by decide +kernel
theorem dX6_numberAt_13 : decode cX6_numberAt 13 = .ok (.istore_n 3, 1) := by decide +kernel
theorem dX6_numberAt_14 : decode cX6_numberAt 14 = .ok (.iload_n 2, 1) := by decide +kernel
theorem dX6_numberAt_15 : decode cX6_numberAt 15 = .ok (.invokestatic 46, 3) := by decide +kernel
theorem dX6_numberAt_18 : decode cX6_numberAt 18 = .ok (.ifCond .ne 7, 3) := by decide +kernel
theorem dX6_numberAt_21 : decode cX6_numberAt 21 = .ok (.iconst (-1), 1) := by decide +kernel
theorem dX6_numberAt_22 : decode cX6_numberAt 22 = .ok (.goto 29, 3) := by decide +kernel
theorem dX6_numberAt_25 : decode cX6_numberAt 25 = .ok (.iload_n 3, 1) := by decide +kernel
theorem dX6_numberAt_26 : decode cX6_numberAt 26 = .ok (.invokestatic 46, 3) := by decide +kernel
theorem dX6_numberAt_29 : decode cX6_numberAt 29 = .ok (.ifCond .eq 18, 3) := by decide +kernel
theorem dX6_numberAt_32 : decode cX6_numberAt 32 = .ok (.bipush 10, 2) := by decide +kernel
theorem dX6_numberAt_34 : decode cX6_numberAt 34 = .ok (.iload_n 2, 1) := by decide +kernel
theorem dX6_numberAt_35 : decode cX6_numberAt 35 = .ok (.bipush 48, 2) := by decide +kernel
theorem dX6_numberAt_37 : decode cX6_numberAt 37 = .ok (.isub, 1) := by decide +kernel
theorem dX6_numberAt_38 : decode cX6_numberAt 38 = .ok (.imul, 1) := by decide +kernel
theorem dX6_numberAt_39 : decode cX6_numberAt 39 = .ok (.iload_n 3, 1) := by decide +kernel
theorem dX6_numberAt_40 : decode cX6_numberAt 40 = .ok (.iadd, 1) := by decide +kernel
theorem dX6_numberAt_41 : decode cX6_numberAt 41 = .ok (.bipush 48, 2) := by decide +kernel
theorem dX6_numberAt_43 : decode cX6_numberAt 43 = .ok (.isub, 1) := by decide +kernel
theorem dX6_numberAt_44 : decode cX6_numberAt 44 = .ok (.goto 7, 3) := by decide +kernel
theorem dX6_numberAt_47 : decode cX6_numberAt 47 = .ok (.iload_n 2, 1) := by decide +kernel
theorem dX6_numberAt_48 : decode cX6_numberAt 48 = .ok (.bipush 48, 2) := by decide +kernel
theorem dX6_numberAt_50 : decode cX6_numberAt 50 = .ok (.isub, 1) := by decide +kernel
theorem dX6_numberAt_51 : decode cX6_numberAt 51 = .ok (.ireturn, 1) := by decide +kernel
theorem dX6_signAt_0 : decode cX6_signAt 0 = .ok (.iload_n 1, 1) := by decide +kernel
theorem dX6_signAt_1 : decode cX6_signAt 1 = .ok (.aload_n 0, 1) := by decide +kernel
theorem dX6_signAt_2 : decode cX6_signAt 2 = .ok (.getfield 37, 3) := by decide +kernel
theorem dX6_signAt_5 : decode cX6_signAt 5 = .ok (.if_icmp .ge 12, 3) := by decide +kernel
theorem dX6_signAt_8 : decode cX6_signAt 8 = .ok (.aload_n 0, 1) := by decide +kernel
theorem dX6_signAt_9 : decode cX6_signAt 9 = .ok (.getfield 7, 3) := by decide +kernel
theorem dX6_signAt_12 : decode cX6_signAt 12 = .ok (.iload_n 1, 1) := by decide +kernel
theorem dX6_signAt_13 : decode cX6_signAt 13 = .ok (.iaload, 1) := by decide +kernel
theorem dX6_signAt_14 : decode cX6_signAt 14 = .ok (.goto 4, 3) := by decide +kernel
theorem dX6_signAt_17 : decode cX6_signAt 17 = .ok (.iconst 0, 1) := by decide +kernel
theorem dX6_signAt_18 : decode cX6_signAt 18 = .ok (.ireturn, 1) := by decide +kernel
theorem dX6_isDigit_0 : decode cX6_isDigit 0 = .ok (.iload_n 0, 1) := by decide +kernel
theorem dX6_isDigit_1 : decode cX6_isDigit 1 = .ok (.bipush 48, 2) := by decide +kernel
theorem dX6_isDigit_3 : decode cX6_isDigit 3 = .ok (.if_icmp .lt 13, 3) := by decide +kernel
theorem dX6_isDigit_6 : decode cX6_isDigit 6 = .ok (.iload_n 0, 1) := by decide +kernel
theorem dX6_isDigit_7 : decode cX6_isDigit 7 = .ok (.bipush 57, 2) := by decide +kernel
theorem dX6_isDigit_9 : decode cX6_isDigit 9 = .ok (.if_icmp .gt 7, 3) := by decide +kernel
theorem dX6_isDigit_12 : decode cX6_isDigit 12 = .ok (.iconst 1, 1) := by decide +kernel
theorem dX6_isDigit_13 : decode cX6_isDigit 13 = .ok (.goto 4, 3) := by decide +kernel
theorem dX6_isDigit_16 : decode cX6_isDigit 16 = .ok (.iconst 0, 1) := by decide +kernel
theorem dX6_isDigit_17 : decode cX6_isDigit 17 = .ok (.ireturn, 1) := by decide +kernel
theorem dX6_wrong_0 : decode cX6_wrong 0 = .ok (.sipush 600, 3) := by decide +kernel
theorem dX6_wrong_3 : decode cX6_wrong 3 = .ok (.bipush 6, 2) := by decide +kernel
theorem dX6_wrong_5 : decode cX6_wrong 5 = .ok (.aload_n 0, 1) := by decide +kernel
theorem dX6_wrong_6 : decode cX6_wrong 6 = .ok (.getfield 50, 3) := by decide +kernel
theorem dX6_wrong_9 : decode cX6_wrong 9 = .ok (.imul, 1) := by decide +kernel
theorem dX6_wrong_10 : decode cX6_wrong 10 = .ok (.iadd, 1) := by decide +kernel
theorem dX6_wrong_11 : decode cX6_wrong 11 = .ok (.istore_n 3, 1) := by decide +kernel
theorem dX6_wrong_12 : decode cX6_wrong 12 = .ok (.aload_n 0, 1) := by decide +kernel
theorem dX6_wrong_13 : decode cX6_wrong 13 = .ok (.getfield 17, 3) := by decide +kernel
theorem dX6_wrong_16 : decode cX6_wrong 16 = .ok (.iload_n 3, 1) := by decide +kernel
theorem dX6_wrong_17 : decode cX6_wrong 17 = .ok (.iaload, 1) := by decide +kernel
theorem dX6_wrong_18 : decode cX6_wrong 18 = .ok (.istore 4, 2) := by decide +kernel
theorem dX6_wrong_20 : decode cX6_wrong 20 = .ok (.iload_n 1, 1) := by decide +kernel
theorem dX6_wrong_21 : decode cX6_wrong 21 = .ok (.ifCond .ge 26, 3) := by decide +kernel
theorem dX6_wrong_24 : decode cX6_wrong 24 = .ok (.aload_n 0, 1) := by decide +kernel
theorem dX6_wrong_25 : decode cX6_wrong 25 = .ok (.sipush 600, 3) := by decide +kernel
theorem dX6_wrong_28 : decode cX6_wrong 28 = .ok (.aload_n 0, 1) := by decide +kernel
theorem dX6_wrong_29 : decode cX6_wrong 29 = .ok (.getfield 50, 3) := by decide +kernel
theorem dX6_wrong_32 : decode cX6_wrong 32 = .ok (.iload 4, 2) := by decide +kernel
theorem dX6_wrong_34 : decode cX6_wrong 34 = .ok (.iload_n 2, 1) := by decide +kernel
theorem dX6_wrong_35 : decode cX6_wrong 35 = .ok (.invokevirtual 53, 3) := by decide +kernel
theorem dX6_wrong_38 : decode cX6_wrong 38 = .ok (.ifCond .lt 7, 3) := by decide +kernel
theorem dX6_wrong_41 : decode cX6_wrong 41 = .ok (.iconst 2, 1) := by decide +kernel
theorem dX6_wrong_42 : decode cX6_wrong 42 = .ok (.goto 4, 3) := by decide +kernel
theorem dX6_wrong_45 : decode cX6_wrong 45 = .ok (.iconst 0, 1) := by decide +kernel
theorem dX6_wrong_46 : decode cX6_wrong 46 = .ok (.ireturn, 1) := by decide +kernel
theorem dX6_wrong_47 : decode cX6_wrong 47 = .ok (.iload_n 1, 1) := by decide +kernel
theorem dX6_wrong_48 : decode cX6_wrong 48 = .ok (.iconst 1, 1) := by decide +kernel
theorem dX6_wrong_49 : decode cX6_wrong 49 = .ok (.if_icmp .ne 30, 3) := by decide +kernel
theorem dX6_wrong_52 : decode cX6_wrong 52 = .ok (.iload 4, 2) := by decide +kernel
theorem dX6_wrong_54 : decode cX6_wrong 54 = .ok (.ifCond .eq 9, 3) := by decide +kernel
theorem dX6_wrong_57 : decode cX6_wrong 57 = .ok (.iload 4, 2) := by decide +kernel
theorem dX6_wrong_59 : decode cX6_wrong 59 = .ok (.iconst 4, 1) := by decide +kernel
theorem dX6_wrong_60 : decode cX6_wrong 60 = .ok (.if_icmp .ne 19, 3) := by decide +kernel
theorem dX6_wrong_63 : decode cX6_wrong 63 = .ok (.aload_n 0, 1) := by decide +kernel
theorem dX6_wrong_64 : decode cX6_wrong 64 = .ok (.getfield 17, 3) := by decide +kernel
theorem dX6_wrong_67 : decode cX6_wrong 67 = .ok (.iload_n 3, 1) := by decide +kernel
theorem dX6_wrong_68 : decode cX6_wrong 68 = .ok (.iconst 2, 1) := by decide +kernel
theorem dX6_wrong_69 : decode cX6_wrong 69 = .ok (.iadd, 1) := by decide +kernel
theorem dX6_wrong_70 : decode cX6_wrong 70 = .ok (.iaload, 1) := by decide +kernel
theorem dX6_wrong_71 : decode cX6_wrong 71 = .ok (.iload_n 2, 1) := by decide +kernel
theorem dX6_wrong_72 : decode cX6_wrong 72 = .ok (.if_icmp .ne 7, 3) := by decide +kernel
theorem dX6_wrong_75 : decode cX6_wrong 75 = .ok (.iconst 1, 1) := by decide +kernel
theorem dX6_wrong_76 : decode cX6_wrong 76 = .ok (.goto 4, 3) := by decide +kernel
theorem dX6_wrong_79 : decode cX6_wrong 79 = .ok (.iconst 0, 1) := by decide +kernel
theorem dX6_wrong_80 : decode cX6_wrong 80 = .ok (.istore 5, 2) := by decide +kernel
theorem dX6_wrong_82 : decode cX6_wrong 82 = .ok (.iload 4, 2) := by decide +kernel
theorem dX6_wrong_84 : decode cX6_wrong 84 = .ok (.iload_n 1, 1) := by decide +kernel
theorem dX6_wrong_85 : decode cX6_wrong 85 = .ok (.iload_n 2, 1) := by decide +kernel
theorem dX6_wrong_86 : decode cX6_wrong 86 = .ok (.invokestatic 57, 3) := by decide +kernel
theorem dX6_wrong_89 : decode cX6_wrong 89 = .ok (.ifCond .eq 8, 3) := by decide +kernel
theorem dX6_wrong_92 : decode cX6_wrong 92 = .ok (.iload 5, 2) := by decide +kernel
theorem dX6_wrong_94 : decode cX6_wrong 94 = .ok (.ifCond .eq 7, 3) := by decide +kernel
theorem dX6_wrong_97 : decode cX6_wrong 97 = .ok (.iconst 3, 1) := by decide +kernel
theorem dX6_wrong_98 : decode cX6_wrong 98 = .ok (.goto 23, 3) := by decide +kernel
theorem dX6_wrong_101 : decode cX6_wrong 101 = .ok (.iload 4, 2) := by decide +kernel
theorem dX6_wrong_103 : decode cX6_wrong 103 = .ok (.iconst 1, 1) := by decide +kernel
theorem dX6_wrong_104 : decode cX6_wrong 104 = .ok (.if_icmp .ne 16, 3) := by decide +kernel
theorem dX6_wrong_107 : decode cX6_wrong 107 = .ok (.iload_n 1, 1) := by decide +kernel
theorem dX6_wrong_108 : decode cX6_wrong 108 = .ok (.iconst 1, 1) := by decide +kernel
theorem dX6_wrong_109 : decode cX6_wrong 109 = .ok (.if_icmp .ne 11, 3) := by decide +kernel
theorem dX6_wrong_112 : decode cX6_wrong 112 = .ok (.iload_n 2, 1) := by decide +kernel
theorem dX6_wrong_113 : decode cX6_wrong 113 = .ok (.ifCond .ne 7, 3) := by decide +kernel
theorem dX6_wrong_116 : decode cX6_wrong 116 = .ok (.iconst 4, 1) := by decide +kernel
theorem dX6_wrong_117 : decode cX6_wrong 117 = .ok (.goto 4, 3) := by decide +kernel
theorem dX6_wrong_120 : decode cX6_wrong 120 = .ok (.iconst 0, 1) := by decide +kernel
theorem dX6_wrong_121 : decode cX6_wrong 121 = .ok (.ireturn, 1) := by decide +kernel
theorem dX6_findIn_0 : decode cX6_findIn 0 = .ok (.iconst (-1), 1) := by decide +kernel
theorem dX6_findIn_1 : decode cX6_findIn 1 = .ok (.istore 5, 2) := by decide +kernel
theorem dX6_findIn_3 : decode cX6_findIn 3 = .ok (.iconst 0, 1) := by decide +kernel
theorem dX6_findIn_4 : decode cX6_findIn 4 = .ok (.istore 6, 2) := by decide +kernel
theorem dX6_findIn_6 : decode cX6_findIn 6 = .ok (.iload 6, 2) := by decide +kernel
theorem dX6_findIn_8 : decode cX6_findIn 8 = .ok (.iload_n 2, 1) := by decide +kernel
theorem dX6_findIn_9 : decode cX6_findIn 9 = .ok (.if_icmp .ge 53, 3) := by decide +kernel
theorem dX6_findIn_12 : decode cX6_findIn 12 = .ok (.aload_n 0, 1) := by decide +kernel
theorem dX6_findIn_13 : decode cX6_findIn 13 = .ok (.getfield 17, 3) := by decide +kernel
theorem dX6_findIn_16 : decode cX6_findIn 16 = .ok (.iload_n 1, 1) := by decide +kernel
theorem dX6_findIn_17 : decode cX6_findIn 17 = .ok (.bipush 6, 2) := by decide +kernel
theorem dX6_findIn_19 : decode cX6_findIn 19 = .ok (.iload 6, 2) := by decide +kernel
theorem dX6_findIn_21 : decode cX6_findIn 21 = .ok (.imul, 1) := by decide +kernel
theorem dX6_findIn_22 : decode cX6_findIn 22 = .ok (.iadd, 1) := by decide +kernel
theorem dX6_findIn_23 : decode cX6_findIn 23 = .ok (.iaload, 1) := by decide +kernel
theorem dX6_findIn_24 : decode cX6_findIn 24 = .ok (.iload_n 3, 1) := by decide +kernel
theorem dX6_findIn_25 : decode cX6_findIn 25 = .ok (.if_icmp .ne 27, 3) := by decide +kernel
theorem dX6_findIn_28 : decode cX6_findIn 28 = .ok (.aload_n 0, 1) := by decide +kernel
theorem dX6_findIn_29 : decode cX6_findIn 29 = .ok (.getfield 17, 3) := by decide +kernel
theorem dX6_findIn_32 : decode cX6_findIn 32 = .ok (.iload_n 1, 1) := by decide +kernel
theorem dX6_findIn_33 : decode cX6_findIn 33 = .ok (.bipush 6, 2) := by decide +kernel
theorem dX6_findIn_35 : decode cX6_findIn 35 = .ok (.iload 6, 2) := by decide +kernel
theorem dX6_findIn_37 : decode cX6_findIn 37 = .ok (.imul, 1) := by decide +kernel
theorem dX6_findIn_38 : decode cX6_findIn 38 = .ok (.iadd, 1) := by decide +kernel
theorem dX6_findIn_39 : decode cX6_findIn 39 = .ok (.iconst 1, 1) := by decide +kernel
theorem dX6_findIn_40 : decode cX6_findIn 40 = .ok (.iadd, 1) := by decide +kernel
theorem dX6_findIn_41 : decode cX6_findIn 41 = .ok (.iaload, 1) := by decide +kernel
theorem dX6_findIn_42 : decode cX6_findIn 42 = .ok (.iload 4, 2) := by decide +kernel
theorem dX6_findIn_44 : decode cX6_findIn 44 = .ok (.if_icmp .ne 8, 3) := by decide +kernel
theorem dX6_findIn_47 : decode cX6_findIn 47 = .ok (.iload 6, 2) := by decide +kernel
theorem dX6_findIn_49 : decode cX6_findIn 49 = .ok (.goto 5, 3) := by decide +kernel
theorem dX6_findIn_52 : decode cX6_findIn 52 = .ok (.iload 5, 2) := by decide +kernel
theorem dX6_findIn_54 : decode cX6_findIn 54 = .ok (.istore 5, 2) := by decide +kernel
theorem dX6_findIn_56 : decode cX6_findIn 56 = .ok (.iinc 6 1, 3) := by decide +kernel
theorem dX6_findIn_59 : decode cX6_findIn 59 = .ok (.goto (-53), 3) := by decide +kernel
theorem dX6_findIn_62 : decode cX6_findIn 62 = .ok (.iload 5, 2) := by decide +kernel
theorem dX6_findIn_64 : decode cX6_findIn 64 = .ok (.ireturn, 1) := by decide +kernel
theorem dX6_isRange_0 : decode cX6_isRange 0 = .ok (.iload_n 1, 1) := by decide +kernel
theorem dX6_isRange_1 : decode cX6_isRange 1 = .ok (.ifCond .eq 17, 3) := by decide +kernel
theorem dX6_isRange_4 : decode cX6_isRange 4 = .ok (.iload_n 1, 1) := by decide +kernel
theorem dX6_isRange_5 : decode cX6_isRange 5 = .ok (.iconst 1, 1) := by decide +kernel
theorem dX6_isRange_6 : decode cX6_isRange 6 = .ok (.if_icmp .ne 24, 3) := by decide +kernel
theorem dX6_isRange_9 : decode cX6_isRange 9 = .ok (.iload_n 0, 1) := by decide +kernel
theorem dX6_isRange_10 : decode cX6_isRange 10 = .ok (.ifCond .eq 8, 3) := by decide +kernel
theorem dX6_isRange_13 : decode cX6_isRange 13 = .ok (.iload_n 0, 1) := by decide +kernel
theorem dX6_isRange_14 : decode cX6_isRange 14 = .ok (.iconst 4, 1) := by decide +kernel
theorem dX6_isRange_15 : decode cX6_isRange 15 = .ok (.if_icmp .ne 15, 3) := by decide +kernel
theorem dX6_isRange_18 : decode cX6_isRange 18 = .ok (.iload_n 2, 1) := by decide +kernel
theorem dX6_isRange_19 : decode cX6_isRange 19 = .ok (.bipush 16, 2) := by decide +kernel
theorem dX6_isRange_21 : decode cX6_isRange 21 = .ok (.if_icmp .ge 7, 3) := by decide +kernel
theorem dX6_isRange_24 : decode cX6_isRange 24 = .ok (.iconst 1, 1) := by decide +kernel
theorem dX6_isRange_25 : decode cX6_isRange 25 = .ok (.goto 4, 3) := by decide +kernel
theorem dX6_isRange_28 : decode cX6_isRange 28 = .ok (.iconst 0, 1) := by decide +kernel
theorem dX6_isRange_29 : decode cX6_isRange 29 = .ok (.ireturn, 1) := by decide +kernel
theorem dX6_isRange_30 : decode cX6_isRange 30 = .ok (.iload_n 0, 1) := by decide +kernel
theorem dX6_isRange_31 : decode cX6_isRange 31 = .ok (.tableswitch 133 0 2 #[25, 46, 89], 25) := by decide +kernel
theorem dX6_isRange_56 : decode cX6_isRange 56 = .ok (.iload_n 1, 1) := by decide +kernel
theorem dX6_isRange_57 : decode cX6_isRange 57 = .ok (.iconst 2, 1) := by decide +kernel
theorem dX6_isRange_58 : decode cX6_isRange 58 = .ok (.if_icmp .eq 13, 3) := by decide +kernel
theorem dX6_isRange_61 : decode cX6_isRange 61 = .ok (.iload_n 2, 1) := by decide +kernel
theorem dX6_isRange_62 : decode cX6_isRange 62 = .ok (.iconst 1, 1) := by decide +kernel
theorem dX6_isRange_63 : decode cX6_isRange 63 = .ok (.bipush 30, 2) := by decide +kernel
theorem dX6_isRange_65 : decode cX6_isRange 65 = .ok (.invokestatic 33, 3) := by decide +kernel
theorem dX6_isRange_68 : decode cX6_isRange 68 = .ok (.ifCond .eq 7, 3) := by decide +kernel
theorem dX6_isRange_71 : decode cX6_isRange 71 = .ok (.iconst 1, 1) := by decide +kernel
theorem dX6_isRange_72 : decode cX6_isRange 72 = .ok (.goto 4, 3) := by decide +kernel
theorem dX6_isRange_75 : decode cX6_isRange 75 = .ok (.iconst 0, 1) := by decide +kernel
theorem dX6_isRange_76 : decode cX6_isRange 76 = .ok (.ireturn, 1) := by decide +kernel
theorem dX6_isRange_77 : decode cX6_isRange 77 = .ok (.iload_n 1, 1) := by decide +kernel
theorem dX6_isRange_78 : decode cX6_isRange 78 = .ok (.iconst 1, 1) := by decide +kernel
theorem dX6_isRange_79 : decode cX6_isRange 79 = .ok (.if_icmp .ne 16, 3) := by decide +kernel
theorem dX6_isRange_82 : decode cX6_isRange 82 = .ok (.iload_n 2, 1) := by decide +kernel
theorem dX6_isRange_83 : decode cX6_isRange 83 = .ok (.iconst 5, 1) := by decide +kernel
theorem dX6_isRange_84 : decode cX6_isRange 84 = .ok (.if_icmp .ge 7, 3) := by decide +kernel
theorem dX6_isRange_87 : decode cX6_isRange 87 = .ok (.iconst 1, 1) := by decide +kernel
theorem dX6_isRange_88 : decode cX6_isRange 88 = .ok (.goto 31, 3) := by decide +kernel
theorem dX6_isRange_91 : decode cX6_isRange 91 = .ok (.iconst 0, 1) := by decide +kernel
theorem dX6_isRange_92 : decode cX6_isRange 92 = .ok (.goto 27, 3) := by decide +kernel
theorem dX6_isRange_95 : decode cX6_isRange 95 = .ok (.iload_n 1, 1) := by decide +kernel
theorem dX6_isRange_96 : decode cX6_isRange 96 = .ok (.iconst 2, 1) := by decide +kernel
theorem dX6_isRange_97 : decode cX6_isRange 97 = .ok (.if_icmp .ne 15, 3) := by decide +kernel
theorem dX6_isRange_100 : decode cX6_isRange 100 = .ok (.iload_n 2, 1) := by decide +kernel
theorem dX6_isRange_101 : decode cX6_isRange 101 = .ok (.ifCond .le 7, 3) := by decide +kernel
theorem dX6_isRange_104 : decode cX6_isRange 104 = .ok (.iconst 1, 1) := by decide +kernel
theorem dX6_isRange_105 : decode cX6_isRange 105 = .ok (.goto 14, 3) := by decide +kernel
theorem dX6_isRange_108 : decode cX6_isRange 108 = .ok (.iconst 0, 1) := by decide +kernel
theorem dX6_isRange_109 : decode cX6_isRange 109 = .ok (.goto 10, 3) := by decide +kernel
theorem dX6_isRange_112 : decode cX6_isRange 112 = .ok (.iload_n 2, 1) := by decide +kernel
theorem dX6_isRange_113 : decode cX6_isRange 113 = .ok (.iconst 1, 1) := by decide +kernel
theorem dX6_isRange_114 : decode cX6_isRange 114 = .ok (.bipush 30, 2) := by decide +kernel
theorem dX6_isRange_116 : decode cX6_isRange 116 = .ok (.invokestatic 33, 3) := by decide +kernel
theorem dX6_isRange_119 : decode cX6_isRange 119 = .ok (.ireturn, 1) := by decide +kernel
theorem dX6_isRange_120 : decode cX6_isRange 120 = .ok (.iload_n 1, 1) := by decide +kernel
theorem dX6_isRange_121 : decode cX6_isRange 121 = .ok (.iconst 1, 1) := by decide +kernel
theorem dX6_isRange_122 : decode cX6_isRange 122 = .ok (.if_icmp .ne 15, 3) := by decide +kernel
theorem dX6_isRange_125 : decode cX6_isRange 125 = .ok (.iload_n 2, 1) := by decide +kernel
theorem dX6_isRange_126 : decode cX6_isRange 126 = .ok (.ifCond .le 7, 3) := by decide +kernel
theorem dX6_isRange_129 : decode cX6_isRange 129 = .ok (.iconst 1, 1) := by decide +kernel
theorem dX6_isRange_130 : decode cX6_isRange 130 = .ok (.goto 33, 3) := by decide +kernel
theorem dX6_isRange_133 : decode cX6_isRange 133 = .ok (.iconst 0, 1) := by decide +kernel
theorem dX6_isRange_134 : decode cX6_isRange 134 = .ok (.goto 29, 3) := by decide +kernel
theorem dX6_isRange_137 : decode cX6_isRange 137 = .ok (.iload_n 1, 1) := by decide +kernel
theorem dX6_isRange_138 : decode cX6_isRange 138 = .ok (.iconst 2, 1) := by decide +kernel
theorem dX6_isRange_139 : decode cX6_isRange 139 = .ok (.if_icmp .ne 13, 3) := by decide +kernel
theorem dX6_isRange_142 : decode cX6_isRange 142 = .ok (.iload_n 2, 1) := by decide +kernel
theorem dX6_isRange_143 : decode cX6_isRange 143 = .ok (.iconst 1, 1) := by decide +kernel
theorem dX6_isRange_144 : decode cX6_isRange 144 = .ok (.bipush 30, 2) := by decide +kernel
theorem dX6_isRange_146 : decode cX6_isRange 146 = .ok (.invokestatic 33, 3) := by decide +kernel
theorem dX6_isRange_149 : decode cX6_isRange 149 = .ok (.goto 14, 3) := by decide +kernel
theorem dX6_isRange_152 : decode cX6_isRange 152 = .ok (.iload_n 2, 1) := by decide +kernel
theorem dX6_isRange_153 : decode cX6_isRange 153 = .ok (.bipush 10, 2) := by decide +kernel
theorem dX6_isRange_155 : decode cX6_isRange 155 = .ok (.if_icmp .ge 7, 3) := by decide +kernel
theorem dX6_isRange_158 : decode cX6_isRange 158 = .ok (.iconst 1, 1) := by decide +kernel
theorem dX6_isRange_159 : decode cX6_isRange 159 = .ok (.goto 4, 3) := by decide +kernel
theorem dX6_isRange_162 : decode cX6_isRange 162 = .ok (.iconst 0, 1) := by decide +kernel
theorem dX6_isRange_163 : decode cX6_isRange 163 = .ok (.ireturn, 1) := by decide +kernel
theorem dX6_isRange_164 : decode cX6_isRange 164 = .ok (.iload_n 2, 1) := by decide +kernel
theorem dX6_isRange_165 : decode cX6_isRange 165 = .ok (.bipush 51, 2) := by decide +kernel
theorem dX6_isRange_167 : decode cX6_isRange 167 = .ok (.if_icmp .ge 7, 3) := by decide +kernel
theorem dX6_isRange_170 : decode cX6_isRange 170 = .ok (.iconst 1, 1) := by decide +kernel
theorem dX6_isRange_171 : decode cX6_isRange 171 = .ok (.goto 4, 3) := by decide +kernel
theorem dX6_isRange_174 : decode cX6_isRange 174 = .ok (.iconst 0, 1) := by decide +kernel
theorem dX6_isRange_175 : decode cX6_isRange 175 = .ok (.ireturn, 1) := by decide +kernel
theorem dX6_numbersOf_0 : decode cX6_numbersOf 0 = .ok (.iload_n 0, 1) := by decide +kernel
theorem dX6_numbersOf_1 : decode cX6_numbersOf 1 = .ok (.iconst 3, 1) := by decide +kernel
theorem dX6_numbersOf_2 : decode cX6_numbersOf 2 = .ok (.if_icmp .ge 7, 3) := by decide +kernel
theorem dX6_numbersOf_5 : decode cX6_numbersOf 5 = .ok (.iconst 4, 1) := by decide +kernel
theorem dX6_numbersOf_6 : decode cX6_numbersOf 6 = .ok (.goto 13, 3) := by decide +kernel
theorem dX6_numbersOf_9 : decode cX6_numbersOf 9 = .ok (.iload_n 0, 1) := by decide +kernel
theorem dX6_numbersOf_10 : decode cX6_numbersOf 10 = .ok (.iconst 5, 1) := by decide +kernel
theorem dX6_numbersOf_11 : decode cX6_numbersOf 11 = .ok (.if_icmp .ne 7, 3) := by decide +kernel
theorem dX6_numbersOf_14 : decode cX6_numbersOf 14 = .ok (.iconst 1, 1) := by decide +kernel
theorem dX6_numbersOf_15 : decode cX6_numbersOf 15 = .ok (.goto 4, 3) := by decide +kernel
theorem dX6_numbersOf_18 : decode cX6_numbersOf 18 = .ok (.iconst 2, 1) := by decide +kernel
theorem dX6_numbersOf_19 : decode cX6_numbersOf 19 = .ok (.ireturn, 1) := by decide +kernel
theorem dX6_refuse_0 : decode cX6_refuse 0 = .ok (.aload_n 0, 1) := by decide +kernel
theorem dX6_refuse_1 : decode cX6_refuse 1 = .ok (.iload_n 1, 1) := by decide +kernel
theorem dX6_refuse_2 : decode cX6_refuse 2 = .ok (.putfield 26, 3) := by decide +kernel
theorem dX6_refuse_5 : decode cX6_refuse 5 = .ok (.iconst 0, 1) := by decide +kernel
theorem dX6_refuse_6 : decode cX6_refuse 6 = .ok (.ireturn, 1) := by decide +kernel
theorem dX6_copies_0 : decode cX6_copies 0 = .ok (.iconst 0, 1) := by decide +kernel
theorem dX6_copies_1 : decode cX6_copies 1 = .ok (.istore 4, 2) := by decide +kernel
theorem dX6_copies_3 : decode cX6_copies 3 = .ok (.iload 4, 2) := by decide +kernel
theorem dX6_copies_5 : decode cX6_copies 5 = .ok (.bipush 6, 2) := by decide +kernel
theorem dX6_copies_7 : decode cX6_copies 7 = .ok (.iload_n 3, 1) := by decide +kernel
theorem dX6_copies_8 : decode cX6_copies 8 = .ok (.imul, 1) := by decide +kernel
theorem dX6_copies_9 : decode cX6_copies 9 = .ok (.if_icmp .ge 27, 3) := by decide +kernel
theorem dX6_copies_12 : decode cX6_copies 12 = .ok (.aload_n 0, 1) := by decide +kernel
theorem dX6_copies_13 : decode cX6_copies 13 = .ok (.getfield 17, 3) := by decide +kernel
theorem dX6_copies_16 : decode cX6_copies 16 = .ok (.iload_n 2, 1) := by decide +kernel
theorem dX6_copies_17 : decode cX6_copies 17 = .ok (.iload 4, 2) := by decide +kernel
theorem dX6_copies_19 : decode cX6_copies 19 = .ok (.iadd, 1) := by decide +kernel
theorem dX6_copies_20 : decode cX6_copies 20 = .ok (.aload_n 0, 1) := by decide +kernel
theorem dX6_copies_21 : decode cX6_copies 21 = .ok (.getfield 17, 3) := by decide +kernel
theorem dX6_copies_24 : decode cX6_copies 24 = .ok (.iload_n 1, 1) := by decide +kernel
theorem dX6_copies_25 : decode cX6_copies 25 = .ok (.iload 4, 2) := by decide +kernel
theorem dX6_copies_27 : decode cX6_copies 27 = .ok (.iadd, 1) := by decide +kernel
theorem dX6_copies_28 : decode cX6_copies 28 = .ok (.iaload, 1) := by decide +kernel
theorem dX6_copies_29 : decode cX6_copies 29 = .ok (.iastore, 1) := by decide +kernel
theorem dX6_copies_30 : decode cX6_copies 30 = .ok (.iinc 4 1, 3) := by decide +kernel
theorem dX6_copies_33 : decode cX6_copies 33 = .ok (.goto (-30), 3) := by decide +kernel
theorem dX6_copies_36 : decode cX6_copies 36 = .ok (.return_, 1) := by decide +kernel
theorem dX6_failure_0 : decode cX6_failure 0 = .ok (.aload_n 0, 1) := by decide +kernel
theorem dX6_failure_1 : decode cX6_failure 1 = .ok (.iconst 0, 1) := by decide +kernel
theorem dX6_failure_2 : decode cX6_failure 2 = .ok (.putfield 26, 3) := by decide +kernel
theorem dX6_failure_5 : decode cX6_failure 5 = .ok (.iload_n 1, 1) := by decide +kernel
theorem dX6_failure_6 : decode cX6_failure 6 = .ok (.ifCond .ne 10, 3) := by decide +kernel
theorem dX6_failure_9 : decode cX6_failure 9 = .ok (.aload_n 0, 1) := by decide +kernel
theorem dX6_failure_10 : decode cX6_failure 10 = .ok (.getfield 40, 3) := by decide +kernel
theorem dX6_failure_13 : decode cX6_failure 13 = .ok (.goto 16, 3) := by decide +kernel
theorem dX6_failure_16 : decode cX6_failure 16 = .ok (.iload_n 1, 1) := by decide +kernel
theorem dX6_failure_17 : decode cX6_failure 17 = .ok (.iconst 1, 1) := by decide +kernel
theorem dX6_failure_18 : decode cX6_failure 18 = .ok (.if_icmp .ne 10, 3) := by decide +kernel
theorem dX6_failure_21 : decode cX6_failure 21 = .ok (.aload_n 0, 1) := by decide +kernel
theorem dX6_failure_22 : decode cX6_failure 22 = .ok (.getfield 13, 3) := by decide +kernel
theorem dX6_failure_25 : decode cX6_failure 25 = .ok (.goto 4, 3) := by decide +kernel
theorem dX6_failure_28 : decode cX6_failure 28 = .ok (.iconst (-1), 1) := by decide +kernel
theorem dX6_failure_29 : decode cX6_failure 29 = .ok (.ireturn, 1) := by decide +kernel
theorem dX6_piece_0 : decode cX6_piece 0 = .ok (.iload_n 1, 1) := by decide +kernel
theorem dX6_piece_1 : decode cX6_piece 1 = .ok (.ifCond .lt 15, 3) := by decide +kernel
theorem dX6_piece_4 : decode cX6_piece 4 = .ok (.iload_n 1, 1) := by decide +kernel
theorem dX6_piece_5 : decode cX6_piece 5 = .ok (.aload_n 0, 1) := by decide +kernel
theorem dX6_piece_6 : decode cX6_piece 6 = .ok (.getfield 86, 3) := by decide +kernel
theorem dX6_piece_9 : decode cX6_piece 9 = .ok (.if_icmp .ge 7, 3) := by decide +kernel
theorem dX6_piece_12 : decode cX6_piece 12 = .ok (.iconst 1, 1) := by decide +kernel
theorem dX6_piece_13 : decode cX6_piece 13 = .ok (.goto 4, 3) := by decide +kernel
theorem dX6_piece_16 : decode cX6_piece 16 = .ok (.iconst 0, 1) := by decide +kernel
theorem dX6_piece_17 : decode cX6_piece 17 = .ok (.istore_n 3, 1) := by decide +kernel
theorem dX6_piece_18 : decode cX6_piece 18 = .ok (.iload_n 3, 1) := by decide +kernel
theorem dX6_piece_19 : decode cX6_piece 19 = .ok (.ifCond .eq 33, 3) := by decide +kernel
theorem dX6_piece_22 : decode cX6_piece 22 = .ok (.iload_n 2, 1) := by decide +kernel
theorem dX6_piece_23 : decode cX6_piece 23 = .ok (.ifCond .lt 29, 3) := by decide +kernel
theorem dX6_piece_26 : decode cX6_piece 26 = .ok (.iload_n 2, 1) := by decide +kernel
theorem dX6_piece_27 : decode cX6_piece 27 = .ok (.iconst 1, 1) := by decide +kernel
theorem dX6_piece_28 : decode cX6_piece 28 = .ok (.aload_n 0, 1) := by decide +kernel
theorem dX6_piece_29 : decode cX6_piece 29 = .ok (.getfield 17, 3) := by decide +kernel
theorem dX6_piece_32 : decode cX6_piece 32 = .ok (.iload_n 3, 1) := by decide +kernel
theorem dX6_piece_33 : decode cX6_piece 33 = .ok (.ifCond .eq 10, 3) := by decide +kernel
theorem dX6_piece_36 : decode cX6_piece 36 = .ok (.bipush 6, 2) := by decide +kernel
theorem dX6_piece_38 : decode cX6_piece 38 = .ok (.iload_n 1, 1) := by decide +kernel
theorem dX6_piece_39 : decode cX6_piece 39 = .ok (.imul, 1) := by decide +kernel
theorem dX6_piece_40 : decode cX6_piece 40 = .ok (.goto 4, 3) := by decide +kernel
theorem dX6_piece_43 : decode cX6_piece 43 = .ok (.iconst 0, 1) := by decide +kernel
theorem dX6_piece_44 : decode cX6_piece 44 = .ok (.iaload, 1) := by decide +kernel
theorem dX6_piece_45 : decode cX6_piece 45 = .ok (.invokestatic 77, 3) := by decide +kernel
theorem dX6_piece_48 : decode cX6_piece 48 = .ok (.iadd, 1) := by decide +kernel
theorem dX6_piece_49 : decode cX6_piece 49 = .ok (.if_icmp .le 9, 3) := by decide +kernel
theorem dX6_piece_52 : decode cX6_piece 52 = .ok (.aload_n 0, 1) := by decide +kernel
theorem dX6_piece_53 : decode cX6_piece 53 = .ok (.iconst 1, 1) := by decide +kernel
theorem dX6_piece_54 : decode cX6_piece 54 = .ok (.invokevirtual 83, 3) := by decide +kernel
theorem dX6_piece_57 : decode cX6_piece 57 = .ok (.ireturn, 1) := by decide +kernel
theorem dX6_piece_58 : decode cX6_piece 58 = .ok (.aload_n 0, 1) := by decide +kernel
theorem dX6_piece_59 : decode cX6_piece 59 = .ok (.iconst 0, 1) := by decide +kernel
theorem dX6_piece_60 : decode cX6_piece 60 = .ok (.putfield 26, 3) := by decide +kernel
theorem dX6_piece_63 : decode cX6_piece 63 = .ok (.aload_n 0, 1) := by decide +kernel
theorem dX6_piece_64 : decode cX6_piece 64 = .ok (.getfield 17, 3) := by decide +kernel
theorem dX6_piece_67 : decode cX6_piece 67 = .ok (.bipush 6, 2) := by decide +kernel
theorem dX6_piece_69 : decode cX6_piece 69 = .ok (.iload_n 1, 1) := by decide +kernel
theorem dX6_piece_70 : decode cX6_piece 70 = .ok (.imul, 1) := by decide +kernel
theorem dX6_piece_71 : decode cX6_piece 71 = .ok (.iload_n 2, 1) := by decide +kernel
theorem dX6_piece_72 : decode cX6_piece 72 = .ok (.iadd, 1) := by decide +kernel
theorem dX6_piece_73 : decode cX6_piece 73 = .ok (.iaload, 1) := by decide +kernel
theorem dX6_piece_74 : decode cX6_piece 74 = .ok (.ireturn, 1) := by decide +kernel
theorem dX6_find_0 : decode cX6_find 0 = .ok (.aload_n 0, 1) := by decide +kernel
theorem dX6_find_1 : decode cX6_find 1 = .ok (.iconst 0, 1) := by decide +kernel
theorem dX6_find_2 : decode cX6_find 2 = .ok (.putfield 26, 3) := by decide +kernel
theorem dX6_find_5 : decode cX6_find 5 = .ok (.aload_n 0, 1) := by decide +kernel
theorem dX6_find_6 : decode cX6_find 6 = .ok (.iconst 0, 1) := by decide +kernel
theorem dX6_find_7 : decode cX6_find 7 = .ok (.aload_n 0, 1) := by decide +kernel
theorem dX6_find_8 : decode cX6_find 8 = .ok (.getfield 86, 3) := by decide +kernel
theorem dX6_find_11 : decode cX6_find 11 = .ok (.iload_n 1, 1) := by decide +kernel
theorem dX6_find_12 : decode cX6_find 12 = .ok (.iload_n 2, 1) := by decide +kernel
theorem dX6_find_13 : decode cX6_find 13 = .ok (.invokevirtual 53, 3) := by decide +kernel
theorem dX6_find_16 : decode cX6_find 16 = .ok (.ireturn, 1) := by decide +kernel
theorem dX6_reach_0 : decode cX6_reach 0 = .ok (.iload_n 1, 1) := by decide +kernel
theorem dX6_reach_1 : decode cX6_reach 1 = .ok (.iconst 0, 1) := by decide +kernel
theorem dX6_reach_2 : decode cX6_reach 2 = .ok (.iconst 1, 1) := by decide +kernel
theorem dX6_reach_3 : decode cX6_reach 3 = .ok (.invokestatic 33, 3) := by decide +kernel
theorem dX6_reach_6 : decode cX6_reach 6 = .ok (.ifCond .eq 17, 3) := by decide +kernel
theorem dX6_reach_9 : decode cX6_reach 9 = .ok (.iload_n 2, 1) := by decide +kernel
theorem dX6_reach_10 : decode cX6_reach 10 = .ok (.invokestatic 96, 3) := by decide +kernel
theorem dX6_reach_13 : decode cX6_reach 13 = .ok (.ifCond .eq 10, 3) := by decide +kernel
theorem dX6_reach_16 : decode cX6_reach 16 = .ok (.iload_n 3, 1) := by decide +kernel
theorem dX6_reach_17 : decode cX6_reach 17 = .ok (.invokestatic 96, 3) := by decide +kernel
theorem dX6_reach_20 : decode cX6_reach 20 = .ok (.ifCond .ne 9, 3) := by decide +kernel
theorem dX6_reach_23 : decode cX6_reach 23 = .ok (.aload_n 0, 1) := by decide +kernel
theorem dX6_reach_24 : decode cX6_reach 24 = .ok (.iconst 1, 1) := by decide +kernel
theorem dX6_reach_25 : decode cX6_reach 25 = .ok (.invokevirtual 83, 3) := by decide +kernel
theorem dX6_reach_28 : decode cX6_reach 28 = .ok (.ireturn, 1) := by decide +kernel
theorem dX6_reach_29 : decode cX6_reach 29 = .ok (.aload_n 0, 1) := by decide +kernel
theorem dX6_reach_30 : decode cX6_reach 30 = .ok (.iconst 0, 1) := by decide +kernel
theorem dX6_reach_31 : decode cX6_reach 31 = .ok (.putfield 26, 3) := by decide +kernel
theorem dX6_reach_34 : decode cX6_reach 34 = .ok (.aload_n 0, 1) := by decide +kernel
theorem dX6_reach_35 : decode cX6_reach 35 = .ok (.iload_n 1, 1) := by decide +kernel
theorem dX6_reach_36 : decode cX6_reach 36 = .ok (.iload_n 2, 1) := by decide +kernel
theorem dX6_reach_37 : decode cX6_reach 37 = .ok (.invokevirtual 99, 3) := by decide +kernel
theorem dX6_reach_40 : decode cX6_reach 40 = .ok (.aload_n 0, 1) := by decide +kernel
theorem dX6_reach_41 : decode cX6_reach 41 = .ok (.getfield 20, 3) := by decide +kernel
theorem dX6_reach_44 : decode cX6_reach 44 = .ok (.iload_n 3, 1) := by decide +kernel
theorem dX6_reach_45 : decode cX6_reach 45 = .ok (.iaload, 1) := by decide +kernel
theorem dX6_reach_46 : decode cX6_reach 46 = .ok (.ifCond .le 7, 3) := by decide +kernel
theorem dX6_reach_49 : decode cX6_reach 49 = .ok (.iconst 1, 1) := by decide +kernel
theorem dX6_reach_50 : decode cX6_reach 50 = .ok (.goto 4, 3) := by decide +kernel
theorem dX6_reach_53 : decode cX6_reach 53 = .ok (.iconst 0, 1) := by decide +kernel
theorem dX6_reach_54 : decode cX6_reach 54 = .ok (.ireturn, 1) := by decide +kernel
theorem dX6_isPoint_0 : decode cX6_isPoint 0 = .ok (.iload_n 0, 1) := by decide +kernel
theorem dX6_isPoint_1 : decode cX6_isPoint 1 = .ok (.ifCond .lt 13, 3) := by decide +kernel
theorem dX6_isPoint_4 : decode cX6_isPoint 4 = .ok (.iload_n 0, 1) := by decide +kernel
theorem dX6_isPoint_5 : decode cX6_isPoint 5 = .ok (.bipush 16, 2) := by decide +kernel
theorem dX6_isPoint_7 : decode cX6_isPoint 7 = .ok (.if_icmp .ge 7, 3) := by decide +kernel
theorem dX6_isPoint_10 : decode cX6_isPoint 10 = .ok (.iconst 1, 1) := by decide +kernel
theorem dX6_isPoint_11 : decode cX6_isPoint 11 = .ok (.goto 4, 3) := by decide +kernel
theorem dX6_isPoint_14 : decode cX6_isPoint 14 = .ok (.iconst 0, 1) := by decide +kernel
theorem dX6_isPoint_15 : decode cX6_isPoint 15 = .ok (.ireturn, 1) := by decide +kernel
theorem dX6_goes_0 : decode cX6_goes 0 = .ok (.iconst 0, 1) := by decide +kernel
theorem dX6_goes_1 : decode cX6_goes 1 = .ok (.istore_n 3, 1) := by decide +kernel
theorem dX6_goes_2 : decode cX6_goes 2 = .ok (.iload_n 3, 1) := by decide +kernel
theorem dX6_goes_3 : decode cX6_goes 3 = .ok (.bipush 16, 2) := by decide +kernel
theorem dX6_goes_5 : decode cX6_goes 5 = .ok (.if_icmp .ge 26, 3) := by decide +kernel
theorem dX6_goes_8 : decode cX6_goes 8 = .ok (.aload_n 0, 1) := by decide +kernel
theorem dX6_goes_9 : decode cX6_goes 9 = .ok (.getfield 20, 3) := by decide +kernel
theorem dX6_goes_12 : decode cX6_goes 12 = .ok (.iload_n 3, 1) := by decide +kernel
theorem dX6_goes_13 : decode cX6_goes 13 = .ok (.iload_n 3, 1) := by decide +kernel
theorem dX6_goes_14 : decode cX6_goes 14 = .ok (.iload_n 2, 1) := by decide +kernel
theorem dX6_goes_15 : decode cX6_goes 15 = .ok (.if_icmp .ne 8, 3) := by decide +kernel
theorem dX6_goes_18 : decode cX6_goes 18 = .ok (.bipush 99, 2) := by decide +kernel
theorem dX6_goes_20 : decode cX6_goes 20 = .ok (.goto 4, 3) := by decide +kernel
theorem dX6_goes_23 : decode cX6_goes 23 = .ok (.iconst 0, 1) := by decide +kernel
theorem dX6_goes_24 : decode cX6_goes 24 = .ok (.iastore, 1) := by decide +kernel
theorem dX6_goes_25 : decode cX6_goes 25 = .ok (.iinc 3 1, 3) := by decide +kernel
theorem dX6_goes_28 : decode cX6_goes 28 = .ok (.goto (-26), 3) := by decide +kernel
theorem dX6_goes_31 : decode cX6_goes 31 = .ok (.iconst 0, 1) := by decide +kernel
theorem dX6_goes_32 : decode cX6_goes 32 = .ok (.istore_n 3, 1) := by decide +kernel
theorem dX6_goes_33 : decode cX6_goes 33 = .ok (.iload_n 3, 1) := by decide +kernel
theorem dX6_goes_34 : decode cX6_goes 34 = .ok (.bipush 16, 2) := by decide +kernel
theorem dX6_goes_36 : decode cX6_goes 36 = .ok (.if_icmp .ge 201, 3) := by decide +kernel
theorem dX6_goes_39 : decode cX6_goes 39 = .ok (.iconst 0, 1) := by decide +kernel
theorem dX6_goes_40 : decode cX6_goes 40 = .ok (.istore 4, 2) := by decide +kernel
theorem dX6_goes_42 : decode cX6_goes 42 = .ok (.iload 4, 2) := by decide +kernel
theorem dX6_goes_44 : decode cX6_goes 44 = .ok (.bipush 6, 2) := by decide +kernel
theorem dX6_goes_46 : decode cX6_goes 46 = .ok (.aload_n 0, 1) := by decide +kernel
theorem dX6_goes_47 : decode cX6_goes 47 = .ok (.getfield 86, 3) := by decide +kernel
theorem dX6_goes_50 : decode cX6_goes 50 = .ok (.imul, 1) := by decide +kernel
theorem dX6_goes_51 : decode cX6_goes 51 = .ok (.if_icmp .ge 180, 3) := by decide +kernel
theorem dX6_goes_54 : decode cX6_goes 54 = .ok (.aload_n 0, 1) := by decide +kernel
theorem dX6_goes_55 : decode cX6_goes 55 = .ok (.getfield 17, 3) := by decide +kernel
theorem dX6_goes_58 : decode cX6_goes 58 = .ok (.iload 4, 2) := by decide +kernel
theorem dX6_goes_60 : decode cX6_goes 60 = .ok (.iconst 2, 1) := by decide +kernel
theorem dX6_goes_61 : decode cX6_goes 61 = .ok (.iadd, 1) := by decide +kernel
theorem dX6_goes_62 : decode cX6_goes 62 = .ok (.iaload, 1) := by decide +kernel
theorem dX6_goes_63 : decode cX6_goes 63 = .ok (.istore 5, 2) := by decide +kernel
theorem dX6_goes_65 : decode cX6_goes 65 = .ok (.aload_n 0, 1) := by decide +kernel
theorem dX6_goes_66 : decode cX6_goes 66 = .ok (.getfield 17, 3) := by decide +kernel
theorem dX6_goes_69 : decode cX6_goes 69 = .ok (.iload 4, 2) := by decide +kernel
theorem dX6_goes_71 : decode cX6_goes 71 = .ok (.iconst 3, 1) := by decide +kernel
theorem dX6_goes_72 : decode cX6_goes 72 = .ok (.iadd, 1) := by decide +kernel
theorem dX6_goes_73 : decode cX6_goes 73 = .ok (.iaload, 1) := by decide +kernel
theorem dX6_goes_74 : decode cX6_goes 74 = .ok (.istore 6, 2) := by decide +kernel
theorem dX6_goes_76 : decode cX6_goes 76 = .ok (.aload_n 0, 1) := by decide +kernel
theorem dX6_goes_77 : decode cX6_goes 77 = .ok (.getfield 17, 3) := by decide +kernel
theorem dX6_goes_80 : decode cX6_goes 80 = .ok (.iload 4, 2) := by decide +kernel
theorem dX6_goes_82 : decode cX6_goes 82 = .ok (.iaload, 1) := by decide +kernel
theorem dX6_goes_83 : decode cX6_goes 83 = .ok (.ifCond .ne 15, 3) := by decide +kernel
theorem dX6_goes_86 : decode cX6_goes 86 = .ok (.aload_n 0, 1) := by decide +kernel
theorem dX6_goes_87 : decode cX6_goes 87 = .ok (.getfield 17, 3) := by decide +kernel
theorem dX6_goes_90 : decode cX6_goes 90 = .ok (.iload 4, 2) := by decide +kernel
theorem dX6_goes_92 : decode cX6_goes 92 = .ok (.iconst 5, 1) := by decide +kernel
theorem dX6_goes_93 : decode cX6_goes 93 = .ok (.iadd, 1) := by decide +kernel
theorem dX6_goes_94 : decode cX6_goes 94 = .ok (.iaload, 1) := by decide +kernel
theorem dX6_goes_95 : decode cX6_goes 95 = .ok (.goto 5, 3) := by decide +kernel
theorem dX6_goes_98 : decode cX6_goes 98 = .ok (.bipush 99, 2) := by decide +kernel
theorem dX6_goes_100 : decode cX6_goes 100 = .ok (.istore 7, 2) := by decide +kernel
theorem dX6_goes_102 : decode cX6_goes 102 = .ok (.aload_n 0, 1) := by decide +kernel
theorem dX6_goes_103 : decode cX6_goes 103 = .ok (.getfield 17, 3) := by decide +kernel
theorem dX6_goes_106 : decode cX6_goes 106 = .ok (.iload 4, 2) := by decide +kernel
theorem dX6_goes_108 : decode cX6_goes 108 = .ok (.iaload, 1) := by decide +kernel
theorem dX6_goes_109 : decode cX6_goes 109 = .ok (.iload_n 1, 1) := by decide +kernel
theorem dX6_goes_110 : decode cX6_goes 110 = .ok (.ifCond .ne 7, 3) := by decide +kernel
theorem dX6_goes_113 : decode cX6_goes 113 = .ok (.iconst 0, 1) := by decide +kernel
theorem dX6_goes_114 : decode cX6_goes 114 = .ok (.goto 4, 3) := by decide +kernel
theorem dX6_goes_117 : decode cX6_goes 117 = .ok (.iconst 4, 1) := by decide +kernel
theorem dX6_goes_118 : decode cX6_goes 118 = .ok (.if_icmp .ne 107, 3) := by decide +kernel
theorem dX6_goes_121 : decode cX6_goes 121 = .ok (.aload_n 0, 1) := by decide +kernel
theorem dX6_goes_122 : decode cX6_goes 122 = .ok (.getfield 20, 3) := by decide +kernel
theorem dX6_goes_125 : decode cX6_goes 125 = .ok (.iload 6, 2) := by decide +kernel
theorem dX6_goes_127 : decode cX6_goes 127 = .ok (.aload_n 0, 1) := by decide +kernel
theorem dX6_goes_128 : decode cX6_goes 128 = .ok (.getfield 20, 3) := by decide +kernel
theorem dX6_goes_131 : decode cX6_goes 131 = .ok (.iload 5, 2) := by decide +kernel
theorem dX6_goes_133 : decode cX6_goes 133 = .ok (.iaload, 1) := by decide +kernel
theorem dX6_goes_134 : decode cX6_goes 134 = .ok (.iload 7, 2) := by decide +kernel
theorem dX6_goes_136 : decode cX6_goes 136 = .ok (.invokestatic 93, 3) := by decide +kernel
theorem dX6_goes_139 : decode cX6_goes 139 = .ok (.aload_n 0, 1) := by decide +kernel
theorem dX6_goes_140 : decode cX6_goes 140 = .ok (.getfield 20, 3) := by decide +kernel
theorem dX6_goes_143 : decode cX6_goes 143 = .ok (.iload 6, 2) := by decide +kernel
theorem dX6_goes_145 : decode cX6_goes 145 = .ok (.iaload, 1) := by decide +kernel
theorem dX6_goes_146 : decode cX6_goes 146 = .ok (.if_icmp .le 18, 3) := by decide +kernel
theorem dX6_goes_149 : decode cX6_goes 149 = .ok (.aload_n 0, 1) := by decide +kernel
theorem dX6_goes_150 : decode cX6_goes 150 = .ok (.getfield 20, 3) := by decide +kernel
theorem dX6_goes_153 : decode cX6_goes 153 = .ok (.iload 5, 2) := by decide +kernel
theorem dX6_goes_155 : decode cX6_goes 155 = .ok (.iaload, 1) := by decide +kernel
theorem dX6_goes_156 : decode cX6_goes 156 = .ok (.iload 7, 2) := by decide +kernel
theorem dX6_goes_158 : decode cX6_goes 158 = .ok (.invokestatic 93, 3) := by decide +kernel
theorem dX6_goes_161 : decode cX6_goes 161 = .ok (.goto 10, 3) := by decide +kernel
theorem dX6_goes_164 : decode cX6_goes 164 = .ok (.aload_n 0, 1) := by decide +kernel
theorem dX6_goes_165 : decode cX6_goes 165 = .ok (.getfield 20, 3) := by decide +kernel
theorem dX6_goes_168 : decode cX6_goes 168 = .ok (.iload 6, 2) := by decide +kernel
theorem dX6_goes_170 : decode cX6_goes 170 = .ok (.iaload, 1) := by decide +kernel
theorem dX6_goes_171 : decode cX6_goes 171 = .ok (.iastore, 1) := by decide +kernel
theorem dX6_goes_172 : decode cX6_goes 172 = .ok (.iload_n 1, 1) := by decide +kernel
theorem dX6_goes_173 : decode cX6_goes 173 = .ok (.ifCond .ne 18, 3) := by decide +kernel
theorem dX6_goes_176 : decode cX6_goes 176 = .ok (.aload_n 0, 1) := by decide +kernel
theorem dX6_goes_177 : decode cX6_goes 177 = .ok (.getfield 20, 3) := by decide +kernel
theorem dX6_goes_180 : decode cX6_goes 180 = .ok (.iload 6, 2) := by decide +kernel
theorem dX6_goes_182 : decode cX6_goes 182 = .ok (.iaload, 1) := by decide +kernel
theorem dX6_goes_183 : decode cX6_goes 183 = .ok (.iload 7, 2) := by decide +kernel
