theorem dX3_readRow_91 : decode cX3_readRow 91 = .ok (.iload_n 3, 1) := by decide +kernel
theorem dX3_readRow_92 : decode cX3_readRow 92 = .ok (.iconst 1, 1) := by decide +kernel
theorem dX3_readRow_93 : decode cX3_readRow 93 = .ok (.iadd, 1) := by decide +kernel
theorem dX3_readRow_94 : decode cX3_readRow 94 = .ok (.iload_n 2, 1) := by decide +kernel
theorem dX3_readRow_95 : decode cX3_readRow 95 = .ok (.if_icmp .ge 8, 3) := by decide +kernel
theorem dX3_readRow_98 : decode cX3_readRow 98 = .ok (.bipush 44, 2) := by decide +kernel
theorem dX3_readRow_100 : decode cX3_readRow 100 = .ok (.goto 5, 3) := by decide +kernel
theorem dX3_readRow_103 : decode cX3_readRow 103 = .ok (.bipush 59, 2) := by decide +kernel
theorem dX3_readRow_105 : decode cX3_readRow 105 = .ok (.invokevirtual 57, 3) := by decide +kernel
theorem dX3_readRow_108 : decode cX3_readRow 108 = .ok (.ifCond .ne 5, 3) := by decide +kernel
theorem dX3_readRow_111 : decode cX3_readRow 111 = .ok (.iconst 0, 1) := by decide +kernel
theorem dX3_readRow_112 : decode cX3_readRow 112 = .ok (.ireturn, 1) := by decide +kernel
theorem dX3_readRow_113 : decode cX3_readRow 113 = .ok (.iinc 3 1, 3) := by decide +kernel
theorem dX3_readRow_116 : decode cX3_readRow 116 = .ok (.goto (-40), 3) := by decide +kernel
theorem dX3_readRow_119 : decode cX3_readRow 119 = .ok (.iconst 1, 1) := by decide +kernel
theorem dX3_readRow_120 : decode cX3_readRow 120 = .ok (.ireturn, 1) := by decide +kernel
theorem dX3_kindHere_0 : decode cX3_kindHere 0 = .ok (.aload_n 0, 1) := by decide +kernel
theorem dX3_kindHere_1 : decode cX3_kindHere 1 = .ok (.invokevirtual 106, 3) := by decide +kernel
theorem dX3_kindHere_4 : decode cX3_kindHere 4 = .ok (.istore_n 1, 1) := by decide +kernel
theorem dX3_kindHere_5 : decode cX3_kindHere 5 = .ok (.iconst 0, 1) := by decide +kernel
theorem dX3_kindHere_6 : decode cX3_kindHere 6 = .ok (.istore_n 2, 1) := by decide +kernel
theorem dX3_kindHere_7 : decode cX3_kindHere 7 = .ok (.iload_n 2, 1) := by decide +kernel
theorem dX3_kindHere_8 : decode cX3_kindHere 8 = .ok (.bipush 6, 2) := by decide +kernel
theorem dX3_kindHere_10 : decode cX3_kindHere 10 = .ok (.if_icmp .ge 20, 3) := by decide +kernel
theorem dX3_kindHere_13 : decode cX3_kindHere 13 = .ok (.getstatic 112, 3) := by decide +kernel
theorem dX3_kindHere_16 : decode cX3_kindHere 16 = .ok (.iload_n 2, 1) := by decide +kernel
theorem dX3_kindHere_17 : decode cX3_kindHere 17 = .ok (.caload, 1) := by decide +kernel
theorem dX3_kindHere_18 : decode cX3_kindHere 18 = .ok (.iload_n 1, 1) := by decide +kernel
theorem dX3_kindHere_19 : decode cX3_kindHere 19 = .ok (.if_icmp .ne 5, 3) := by decide +kernel
theorem dX3_kindHere_22 : decode cX3_kindHere 22 = .ok (.iload_n 2, 1) := by decide +kernel
theorem dX3_kindHere_23 : decode cX3_kindHere 23 = .ok (.ireturn, 1) := by decide +kernel
theorem dX3_kindHere_24 : decode cX3_kindHere 24 = .ok (.iinc 2 1, 3) := by decide +kernel
theorem dX3_kindHere_27 : decode cX3_kindHere 27 = .ok (.goto (-20), 3) := by decide +kernel
theorem dX3_kindHere_30 : decode cX3_kindHere 30 = .ok (.iconst (-1), 1) := by decide +kernel
theorem dX3_kindHere_31 : decode cX3_kindHere 31 = .ok (.ireturn, 1) := by decide +kernel
theorem dX3_signHere_0 : decode cX3_signHere 0 = .ok (.aload_n 0, 1) := by decide +kernel
theorem dX3_signHere_1 : decode cX3_signHere 1 = .ok (.getfield 26, 3) := by decide +kernel
theorem dX3_signHere_4 : decode cX3_signHere 4 = .ok (.ifCond .lt 26, 3) := by decide +kernel
theorem dX3_signHere_7 : decode cX3_signHere 7 = .ok (.aload_n 0, 1) := by decide +kernel
theorem dX3_signHere_8 : decode cX3_signHere 8 = .ok (.getfield 26, 3) := by decide +kernel
theorem dX3_signHere_11 : decode cX3_signHere 11 = .ok (.aload_n 0, 1) := by decide +kernel
theorem dX3_signHere_12 : decode cX3_signHere 12 = .ok (.getfield 22, 3) := by decide +kernel
theorem dX3_signHere_15 : decode cX3_signHere 15 = .ok (.if_icmp .ge 15, 3) := by decide +kernel
theorem dX3_signHere_18 : decode cX3_signHere 18 = .ok (.aload_n 0, 1) := by decide +kernel
theorem dX3_signHere_19 : decode cX3_signHere 19 = .ok (.getfield 9, 3) := by decide +kernel
theorem dX3_signHere_22 : decode cX3_signHere 22 = .ok (.aload_n 0, 1) := by decide +kernel
theorem dX3_signHere_23 : decode cX3_signHere 23 = .ok (.getfield 26, 3) := by decide +kernel
theorem dX3_signHere_26 : decode cX3_signHere 26 = .ok (.caload, 1) := by decide +kernel
theorem dX3_signHere_27 : decode cX3_signHere 27 = .ok (.goto 4, 3) := by decide +kernel
theorem dX3_signHere_30 : decode cX3_signHere 30 = .ok (.iconst (-1), 1) := by decide +kernel
theorem dX3_signHere_31 : decode cX3_signHere 31 = .ok (.ireturn, 1) := by decide +kernel
theorem dX3_fail_0 : decode cX3_fail 0 = .ok (.aload_n 0, 1) := by decide +kernel
theorem dX3_fail_1 : decode cX3_fail 1 = .ok (.iload_n 1, 1) := by decide +kernel
theorem dX3_fail_2 : decode cX3_fail 2 = .ok (.putfield 29, 3) := by decide +kernel
theorem dX3_fail_5 : decode cX3_fail 5 = .ok (.aload_n 0, 1) := by decide +kernel
theorem dX3_fail_6 : decode cX3_fail 6 = .ok (.iload_n 2, 1) := by decide +kernel
theorem dX3_fail_7 : decode cX3_fail 7 = .ok (.putfield 32, 3) := by decide +kernel
theorem dX3_fail_10 : decode cX3_fail 10 = .ok (.iconst 0, 1) := by decide +kernel
theorem dX3_fail_11 : decode cX3_fail 11 = .ok (.ireturn, 1) := by decide +kernel
theorem dX1_isFull_0 : decode cX1_isFull 0 = .ok (.aload_n 0, 1) := by decide +kernel
theorem dX1_isFull_1 : decode cX1_isFull 1 = .ok (.getfield 21, 3) := by decide +kernel
theorem dX1_isFull_4 : decode cX1_isFull 4 = .ok (.bipush 50, 2) := by decide +kernel
theorem dX1_isFull_6 : decode cX1_isFull 6 = .ok (.if_icmp .lt 7, 3) := by decide +kernel
theorem dX1_isFull_9 : decode cX1_isFull 9 = .ok (.iconst 1, 1) := by decide +kernel
theorem dX1_isFull_10 : decode cX1_isFull 10 = .ok (.goto 4, 3) := by decide +kernel
theorem dX1_isFull_13 : decode cX1_isFull 13 = .ok (.iconst 0, 1) := by decide +kernel
theorem dX1_isFull_14 : decode cX1_isFull 14 = .ok (.ireturn, 1) := by decide +kernel
theorem dX3_readName_0 : decode cX3_readName 0 = .ok (.aload_n 0, 1) := by decide +kernel
theorem dX3_readName_1 : decode cX3_readName 1 = .ok (.getfield 26, 3) := by decide +kernel
theorem dX3_readName_4 : decode cX3_readName 4 = .ok (.istore_n 2, 1) := by decide +kernel
theorem dX3_readName_5 : decode cX3_readName 5 = .ok (.aload_n 0, 1) := by decide +kernel
theorem dX3_readName_6 : decode cX3_readName 6 = .ok (.invokevirtual 68, 3) := by decide +kernel
theorem dX3_readName_9 : decode cX3_readName 9 = .ok (.istore_n 3, 1) := by decide +kernel
theorem dX3_readName_10 : decode cX3_readName 10 = .ok (.iload_n 3, 1) := by decide +kernel
theorem dX3_readName_11 : decode cX3_readName 11 = .ok (.iconst (-1), 1) := by decide +kernel
theorem dX3_readName_12 : decode cX3_readName 12 = .ok (.if_icmp .ne 13, 3) := by decide +kernel
theorem dX3_readName_15 : decode cX3_readName 15 = .ok (.aload_n 0, 1) := by decide +kernel
theorem dX3_readName_16 : decode cX3_readName 16 = .ok (.iconst 1, 1) := by decide +kernel
theorem dX3_readName_17 : decode cX3_readName 17 = .ok (.aload_n 0, 1) := by decide +kernel
theorem dX3_readName_18 : decode cX3_readName 18 = .ok (.getfield 26, 3) := by decide +kernel
theorem dX3_readName_21 : decode cX3_readName 21 = .ok (.invokevirtual 46, 3) := by decide +kernel
theorem dX3_readName_24 : decode cX3_readName 24 = .ok (.ireturn, 1) := by decide +kernel
theorem dX3_readName_25 : decode cX3_readName 25 = .ok (.aload_n 0, 1) := by decide +kernel
theorem dX3_readName_26 : decode cX3_readName 26 = .ok (.getfield 18, 3) := by decide +kernel
theorem dX3_readName_29 : decode cX3_readName 29 = .ok (.iload_n 1, 1) := by decide +kernel
theorem dX3_readName_30 : decode cX3_readName 30 = .ok (.iload_n 3, 1) := by decide +kernel
theorem dX3_readName_31 : decode cX3_readName 31 = .ok (.invokevirtual 71, 3) := by decide +kernel
theorem dX3_readName_34 : decode cX3_readName 34 = .ok (.iconst (-1), 1) := by decide +kernel
theorem dX3_readName_35 : decode cX3_readName 35 = .ok (.if_icmp .eq 10, 3) := by decide +kernel
theorem dX3_readName_38 : decode cX3_readName 38 = .ok (.aload_n 0, 1) := by decide +kernel
theorem dX3_readName_39 : decode cX3_readName 39 = .ok (.iconst 2, 1) := by decide +kernel
theorem dX3_readName_40 : decode cX3_readName 40 = .ok (.iload_n 2, 1) := by decide +kernel
theorem dX3_readName_41 : decode cX3_readName 41 = .ok (.invokevirtual 46, 3) := by decide +kernel
theorem dX3_readName_44 : decode cX3_readName 44 = .ok (.ireturn, 1) := by decide +kernel
theorem dX3_readName_45 : decode cX3_readName 45 = .ok (.aload_n 0, 1) := by decide +kernel
theorem dX3_readName_46 : decode cX3_readName 46 = .ok (.getfield 18, 3) := by decide +kernel
theorem dX3_readName_49 : decode cX3_readName 49 = .ok (.iload_n 1, 1) := by decide +kernel
theorem dX3_readName_50 : decode cX3_readName 50 = .ok (.iload_n 3, 1) := by decide +kernel
theorem dX3_readName_51 : decode cX3_readName 51 = .ok (.invokevirtual 75, 3) := by decide +kernel
theorem dX3_readName_54 : decode cX3_readName 54 = .ok (.iconst 1, 1) := by decide +kernel
theorem dX3_readName_55 : decode cX3_readName 55 = .ok (.ireturn, 1) := by decide +kernel
theorem dX3_readDigits_0 : decode cX3_readDigits 0 = .ok (.aload_n 0, 1) := by decide +kernel
theorem dX3_readDigits_1 : decode cX3_readDigits 1 = .ok (.invokevirtual 109, 3) := by decide +kernel
theorem dX3_readDigits_4 : decode cX3_readDigits 4 = .ok (.istore_n 1, 1) := by decide +kernel
theorem dX3_readDigits_5 : decode cX3_readDigits 5 = .ok (.iload_n 1, 1) := by decide +kernel
theorem dX3_readDigits_6 : decode cX3_readDigits 6 = .ok (.iconst (-1), 1) := by decide +kernel
theorem dX3_readDigits_7 : decode cX3_readDigits 7 = .ok (.if_icmp .ne 5, 3) := by decide +kernel
theorem dX3_readDigits_10 : decode cX3_readDigits 10 = .ok (.iconst (-1), 1) := by decide +kernel
theorem dX3_readDigits_11 : decode cX3_readDigits 11 = .ok (.ireturn, 1) := by decide +kernel
theorem dX3_readDigits_12 : decode cX3_readDigits 12 = .ok (.aload_n 0, 1) := by decide +kernel
theorem dX3_readDigits_13 : decode cX3_readDigits 13 = .ok (.dup, 1) := by decide +kernel
theorem dX3_readDigits_14 : decode cX3_readDigits 14 = .ok (.getfield 26, 3) := by decide +kernel
theorem dX3_readDigits_17 : decode cX3_readDigits 17 = .ok (.iconst 1, 1) := by decide +kernel
theorem dX3_readDigits_18 : decode cX3_readDigits 18 = .ok (.iadd, 1) := by decide +kernel
theorem dX3_readDigits_19 : decode cX3_readDigits 19 = .ok (.putfield 26, 3) := by decide +kernel
theorem dX3_readDigits_22 : decode cX3_readDigits 22 = .ok (.aload_n 0, 1) := by decide +kernel
theorem dX3_readDigits_23 : decode cX3_readDigits 23 = .ok (.invokevirtual 109, 3) := by decide +kernel
theorem dX3_readDigits_26 : decode cX3_readDigits 26 = .ok (.istore_n 2, 1) := by decide +kernel
theorem dX3_readDigits_27 : decode cX3_readDigits 27 = .ok (.iload_n 2, 1) := by decide +kernel
theorem dX3_readDigits_28 : decode cX3_readDigits 28 = .ok (.iconst (-1), 1) := by decide +kernel
theorem dX3_readDigits_29 : decode cX3_readDigits 29 = .ok (.if_icmp .ne 5, 3) := by decide +kernel
theorem dX3_readDigits_32 : decode cX3_readDigits 32 = .ok (.iload_n 1, 1) := by decide +kernel
theorem dX3_readDigits_33 : decode cX3_readDigits 33 = .ok (.ireturn, 1) := by decide +kernel
theorem dX3_readDigits_34 : decode cX3_readDigits 34 = .ok (.aload_n 0, 1) := by decide +kernel
theorem dX3_readDigits_35 : decode cX3_readDigits 35 = .ok (.dup, 1) := by decide +kernel
theorem dX3_readDigits_36 : decode cX3_readDigits 36 = .ok (.getfield 26, 3) := by decide +kernel
theorem dX3_readDigits_39 : decode cX3_readDigits 39 = .ok (.iconst 1, 1) := by decide +kernel
theorem dX3_readDigits_40 : decode cX3_readDigits 40 = .ok (.iadd, 1) := by decide +kernel
theorem dX3_readDigits_41 : decode cX3_readDigits 41 = .ok (.putfield 26, 3) := by decide +kernel
theorem dX3_readDigits_44 : decode cX3_readDigits 44 = .ok (.bipush 10, 2) := by decide +kernel
theorem dX3_readDigits_46 : decode cX3_readDigits 46 = .ok (.iload_n 1, 1) := by decide +kernel
theorem dX3_readDigits_47 : decode cX3_readDigits 47 = .ok (.imul, 1) := by decide +kernel
theorem dX3_readDigits_48 : decode cX3_readDigits 48 = .ok (.iload_n 2, 1) := by decide +kernel
theorem dX3_readDigits_49 : decode cX3_readDigits 49 = .ok (.iadd, 1) := by decide +kernel
theorem dX3_readDigits_50 : decode cX3_readDigits 50 = .ok (.ireturn, 1) := by decide +kernel
theorem dX3_digitHere_0 : decode cX3_digitHere 0 = .ok (.aload_n 0, 1) := by decide +kernel
theorem dX3_digitHere_1 : decode cX3_digitHere 1 = .ok (.invokevirtual 106, 3) := by decide +kernel
theorem dX3_digitHere_4 : decode cX3_digitHere 4 = .ok (.istore_n 1, 1) := by decide +kernel
theorem dX3_digitHere_5 : decode cX3_digitHere 5 = .ok (.iload_n 1, 1) := by decide +kernel
theorem dX3_digitHere_6 : decode cX3_digitHere 6 = .ok (.bipush 48, 2) := by decide +kernel
theorem dX3_digitHere_8 : decode cX3_digitHere 8 = .ok (.if_icmp .lt 16, 3) := by decide +kernel
theorem dX3_digitHere_11 : decode cX3_digitHere 11 = .ok (.iload_n 1, 1) := by decide +kernel
theorem dX3_digitHere_12 : decode cX3_digitHere 12 = .ok (.bipush 57, 2) := by decide +kernel
theorem dX3_digitHere_14 : decode cX3_digitHere 14 = .ok (.if_icmp .gt 10, 3) := by decide +kernel
theorem dX3_digitHere_17 : decode cX3_digitHere 17 = .ok (.iload_n 1, 1) := by decide +kernel
theorem dX3_digitHere_18 : decode cX3_digitHere 18 = .ok (.bipush 48, 2) := by decide +kernel
theorem dX3_digitHere_20 : decode cX3_digitHere 20 = .ok (.isub, 1) := by decide +kernel
theorem dX3_digitHere_21 : decode cX3_digitHere 21 = .ok (.goto 4, 3) := by decide +kernel
theorem dX3_digitHere_24 : decode cX3_digitHere 24 = .ok (.iconst (-1), 1) := by decide +kernel
theorem dX3_digitHere_25 : decode cX3_digitHere 25 = .ok (.ireturn, 1) := by decide +kernel
theorem dX1_begin_0 : decode cX1_begin 0 = .ok (.aload_n 0, 1) := by decide +kernel
theorem dX1_begin_1 : decode cX1_begin 1 = .ok (.invokevirtual 25, 3) := by decide +kernel
theorem dX1_begin_4 : decode cX1_begin 4 = .ok (.ifCond .ne 33, 3) := by decide +kernel
theorem dX1_begin_7 : decode cX1_begin 7 = .ok (.aload_n 0, 1) := by decide +kernel
theorem dX1_begin_8 : decode cX1_begin 8 = .ok (.getfield 9, 3) := by decide +kernel
theorem dX1_begin_11 : decode cX1_begin 11 = .ok (.aload_n 0, 1) := by decide +kernel
theorem dX1_begin_12 : decode cX1_begin 12 = .ok (.getfield 21, 3) := by decide +kernel
theorem dX1_begin_15 : decode cX1_begin 15 = .ok (.iload_n 1, 1) := by decide +kernel
theorem dX1_begin_16 : decode cX1_begin 16 = .ok (.iastore, 1) := by decide +kernel
theorem dX1_begin_17 : decode cX1_begin 17 = .ok (.aload_n 0, 1) := by decide +kernel
theorem dX1_begin_18 : decode cX1_begin 18 = .ok (.getfield 15, 3) := by decide +kernel
theorem dX1_begin_21 : decode cX1_begin 21 = .ok (.aload_n 0, 1) := by decide +kernel
theorem dX1_begin_22 : decode cX1_begin 22 = .ok (.getfield 21, 3) := by decide +kernel
theorem dX1_begin_25 : decode cX1_begin 25 = .ok (.iload_n 2, 1) := by decide +kernel
theorem dX1_begin_26 : decode cX1_begin 26 = .ok (.iastore, 1) := by decide +kernel
theorem dX1_begin_27 : decode cX1_begin 27 = .ok (.aload_n 0, 1) := by decide +kernel
theorem dX1_begin_28 : decode cX1_begin 28 = .ok (.dup, 1) := by decide +kernel
theorem dX1_begin_29 : decode cX1_begin 29 = .ok (.getfield 21, 3) := by decide +kernel
theorem dX1_begin_32 : decode cX1_begin 32 = .ok (.iconst 1, 1) := by decide +kernel
theorem dX1_begin_33 : decode cX1_begin 33 = .ok (.iadd, 1) := by decide +kernel
theorem dX1_begin_34 : decode cX1_begin 34 = .ok (.putfield 21, 3) := by decide +kernel
theorem dX1_begin_37 : decode cX1_begin 37 = .ok (.return_, 1) := by decide +kernel
theorem dX3_readSign_0 : decode cX3_readSign 0 = .ok (.aload_n 0, 1) := by decide +kernel
theorem dX3_readSign_1 : decode cX3_readSign 1 = .ok (.invokevirtual 106, 3) := by decide +kernel
theorem dX3_readSign_4 : decode cX3_readSign 4 = .ok (.iload_n 1, 1) := by decide +kernel
theorem dX3_readSign_5 : decode cX3_readSign 5 = .ok (.if_icmp .eq 13, 3) := by decide +kernel
theorem dX3_readSign_8 : decode cX3_readSign 8 = .ok (.aload_n 0, 1) := by decide +kernel
theorem dX3_readSign_9 : decode cX3_readSign 9 = .ok (.iconst 1, 1) := by decide +kernel
theorem dX3_readSign_10 : decode cX3_readSign 10 = .ok (.aload_n 0, 1) := by decide +kernel
theorem dX3_readSign_11 : decode cX3_readSign 11 = .ok (.getfield 26, 3) := by decide +kernel
theorem dX3_readSign_14 : decode cX3_readSign 14 = .ok (.invokevirtual 46, 3) := by decide +kernel
theorem dX3_readSign_17 : decode cX3_readSign 17 = .ok (.ireturn, 1) := by decide +kernel
theorem dX3_readSign_18 : decode cX3_readSign 18 = .ok (.aload_n 0, 1) := by decide +kernel
theorem dX3_readSign_19 : decode cX3_readSign 19 = .ok (.dup, 1) := by decide +kernel
theorem dX3_readSign_20 : decode cX3_readSign 20 = .ok (.getfield 26, 3) := by decide +kernel
theorem dX3_readSign_23 : decode cX3_readSign 23 = .ok (.iconst 1, 1) := by decide +kernel
theorem dX3_readSign_24 : decode cX3_readSign 24 = .ok (.iadd, 1) := by decide +kernel
theorem dX3_readSign_25 : decode cX3_readSign 25 = .ok (.putfield 26, 3) := by decide +kernel
theorem dX3_readSign_28 : decode cX3_readSign 28 = .ok (.iconst 1, 1) := by decide +kernel
theorem dX3_readSign_29 : decode cX3_readSign 29 = .ok (.ireturn, 1) := by decide +kernel
theorem dX3_readNumber_0 : decode cX3_readNumber 0 = .ok (.aload_n 0, 1) := by decide +kernel
theorem dX3_readNumber_1 : decode cX3_readNumber 1 = .ok (.getfield 26, 3) := by decide +kernel
theorem dX3_readNumber_4 : decode cX3_readNumber 4 = .ok (.istore_n 3, 1) := by decide +kernel
theorem dX3_readNumber_5 : decode cX3_readNumber 5 = .ok (.aload_n 0, 1) := by decide +kernel
theorem dX3_readNumber_6 : decode cX3_readNumber 6 = .ok (.invokevirtual 68, 3) := by decide +kernel
theorem dX3_readNumber_9 : decode cX3_readNumber 9 = .ok (.istore 4, 2) := by decide +kernel
theorem dX3_readNumber_11 : decode cX3_readNumber 11 = .ok (.iload 4, 2) := by decide +kernel
theorem dX3_readNumber_13 : decode cX3_readNumber 13 = .ok (.iconst (-1), 1) := by decide +kernel
theorem dX3_readNumber_14 : decode cX3_readNumber 14 = .ok (.if_icmp .ne 13, 3) := by decide +kernel
theorem dX3_readNumber_17 : decode cX3_readNumber 17 = .ok (.aload_n 0, 1) := by decide +kernel
theorem dX3_readNumber_18 : decode cX3_readNumber 18 = .ok (.iconst 1, 1) := by decide +kernel
theorem dX3_readNumber_19 : decode cX3_readNumber 19 = .ok (.aload_n 0, 1) := by decide +kernel
theorem dX3_readNumber_20 : decode cX3_readNumber 20 = .ok (.getfield 26, 3) := by decide +kernel
theorem dX3_readNumber_23 : decode cX3_readNumber 23 = .ok (.invokevirtual 46, 3) := by decide +kernel
theorem dX3_readNumber_26 : decode cX3_readNumber 26 = .ok (.ireturn, 1) := by decide +kernel
theorem dX3_readNumber_27 : decode cX3_readNumber 27 = .ok (.aload_n 0, 1) := by decide +kernel
theorem dX3_readNumber_28 : decode cX3_readNumber 28 = .ok (.iload_n 1, 1) := by decide +kernel
theorem dX3_readNumber_29 : decode cX3_readNumber 29 = .ok (.iload_n 2, 1) := by decide +kernel
theorem dX3_readNumber_30 : decode cX3_readNumber 30 = .ok (.iload 4, 2) := by decide +kernel
theorem dX3_readNumber_32 : decode cX3_readNumber 32 = .ok (.invokevirtual 79, 3) := by decide +kernel
theorem dX3_readNumber_35 : decode cX3_readNumber 35 = .ok (.istore 5, 2) := by decide +kernel
theorem dX3_readNumber_37 : decode cX3_readNumber 37 = .ok (.iload 5, 2) := by decide +kernel
theorem dX3_readNumber_39 : decode cX3_readNumber 39 = .ok (.ifCond .eq 11, 3) := by decide +kernel
theorem dX3_readNumber_42 : decode cX3_readNumber 42 = .ok (.aload_n 0, 1) := by decide +kernel
theorem dX3_readNumber_43 : decode cX3_readNumber 43 = .ok (.iload 5, 2) := by decide +kernel
theorem dX3_readNumber_45 : decode cX3_readNumber 45 = .ok (.iload_n 3, 1) := by decide +kernel
theorem dX3_readNumber_46 : decode cX3_readNumber 46 = .ok (.invokevirtual 46, 3) := by decide +kernel
theorem dX3_readNumber_49 : decode cX3_readNumber 49 = .ok (.ireturn, 1) := by decide +kernel
theorem dX3_readNumber_50 : decode cX3_readNumber 50 = .ok (.aload_n 0, 1) := by decide +kernel
theorem dX3_readNumber_51 : decode cX3_readNumber 51 = .ok (.getfield 18, 3) := by decide +kernel
theorem dX3_readNumber_54 : decode cX3_readNumber 54 = .ok (.iload_n 2, 1) := by decide +kernel
theorem dX3_readNumber_55 : decode cX3_readNumber 55 = .ok (.iload 4, 2) := by decide +kernel
theorem dX3_readNumber_57 : decode cX3_readNumber 57 = .ok (.invokevirtual 83, 3) := by decide +kernel
theorem dX3_readNumber_60 : decode cX3_readNumber 60 = .ok (.iconst 1, 1) := by decide +kernel
theorem dX3_readNumber_61 : decode cX3_readNumber 61 = .ok (.ireturn, 1) := by decide +kernel
theorem dX3_judgeNumber_0 : decode cX3_judgeNumber 0 = .ok (.iload_n 1, 1) := by decide +kernel
theorem dX3_judgeNumber_1 : decode cX3_judgeNumber 1 = .ok (.iload_n 2, 1) := by decide +kernel
theorem dX3_judgeNumber_2 : decode cX3_judgeNumber 2 = .ok (.iload_n 3, 1) := by decide +kernel
theorem dX3_judgeNumber_3 : decode cX3_judgeNumber 3 = .ok (.invokestatic 86, 3) := by decide +kernel
theorem dX3_judgeNumber_6 : decode cX3_judgeNumber 6 = .ok (.ifCond .ne 5, 3) := by decide +kernel
theorem dX3_judgeNumber_9 : decode cX3_judgeNumber 9 = .ok (.iconst 3, 1) := by decide +kernel
theorem dX3_judgeNumber_10 : decode cX3_judgeNumber 10 = .ok (.ireturn, 1) := by decide +kernel
theorem dX3_judgeNumber_11 : decode cX3_judgeNumber 11 = .ok (.iload_n 1, 1) := by decide +kernel
theorem dX3_judgeNumber_12 : decode cX3_judgeNumber 12 = .ok (.ifCond .eq 8, 3) := by decide +kernel
theorem dX3_judgeNumber_15 : decode cX3_judgeNumber 15 = .ok (.iload_n 1, 1) := by decide +kernel
theorem dX3_judgeNumber_16 : decode cX3_judgeNumber 16 = .ok (.iconst 4, 1) := by decide +kernel
theorem dX3_judgeNumber_17 : decode cX3_judgeNumber 17 = .ok (.if_icmp .ne 31, 3) := by decide +kernel
theorem dX3_judgeNumber_20 : decode cX3_judgeNumber 20 = .ok (.iload_n 2, 1) := by decide +kernel
theorem dX3_judgeNumber_21 : decode cX3_judgeNumber 21 = .ok (.iconst 1, 1) := by decide +kernel
theorem dX3_judgeNumber_22 : decode cX3_judgeNumber 22 = .ok (.if_icmp .ne 26, 3) := by decide +kernel
theorem dX3_judgeNumber_25 : decode cX3_judgeNumber 25 = .ok (.iload_n 3, 1) := by decide +kernel
theorem dX3_judgeNumber_26 : decode cX3_judgeNumber 26 = .ok (.aload_n 0, 1) := by decide +kernel
theorem dX3_judgeNumber_27 : decode cX3_judgeNumber 27 = .ok (.getfield 18, 3) := by decide +kernel
theorem dX3_judgeNumber_30 : decode cX3_judgeNumber 30 = .ok (.aload_n 0, 1) := by decide +kernel
theorem dX3_judgeNumber_31 : decode cX3_judgeNumber 31 = .ok (.getfield 18, 3) := by decide +kernel
theorem dX3_judgeNumber_34 : decode cX3_judgeNumber 34 = .ok (.invokevirtual 90, 3) := by decide +kernel
theorem dX3_judgeNumber_37 : decode cX3_judgeNumber 37 = .ok (.iconst 1, 1) := by decide +kernel
theorem dX3_judgeNumber_38 : decode cX3_judgeNumber 38 = .ok (.isub, 1) := by decide +kernel
theorem dX3_judgeNumber_39 : decode cX3_judgeNumber 39 = .ok (.iconst 0, 1) := by decide +kernel
theorem dX3_judgeNumber_40 : decode cX3_judgeNumber 40 = .ok (.invokevirtual 93, 3) := by decide +kernel
theorem dX3_judgeNumber_43 : decode cX3_judgeNumber 43 = .ok (.if_icmp .ne 5, 3) := by decide +kernel
theorem dX3_judgeNumber_46 : decode cX3_judgeNumber 46 = .ok (.iconst 3, 1) := by decide +kernel
theorem dX3_judgeNumber_47 : decode cX3_judgeNumber 47 = .ok (.ireturn, 1) := by decide +kernel
theorem dX3_judgeNumber_48 : decode cX3_judgeNumber 48 = .ok (.iload_n 1, 1) := by decide +kernel
theorem dX3_judgeNumber_49 : decode cX3_judgeNumber 49 = .ok (.iconst 1, 1) := by decide +kernel
theorem dX3_judgeNumber_50 : decode cX3_judgeNumber 50 = .ok (.if_icmp .ne 14, 3) := by decide +kernel
theorem dX3_judgeNumber_53 : decode cX3_judgeNumber 53 = .ok (.iload_n 2, 1) := by decide +kernel
theorem dX3_judgeNumber_54 : decode cX3_judgeNumber 54 = .ok (.iconst 1, 1) := by decide +kernel
theorem dX3_judgeNumber_55 : decode cX3_judgeNumber 55 = .ok (.if_icmp .ne 9, 3) := by decide +kernel
theorem dX3_judgeNumber_58 : decode cX3_judgeNumber 58 = .ok (.iload_n 3, 1) := by decide +kernel
theorem dX3_judgeNumber_59 : decode cX3_judgeNumber 59 = .ok (.ifCond .ne 5, 3) := by decide +kernel
theorem dX3_judgeNumber_62 : decode cX3_judgeNumber 62 = .ok (.iconst 4, 1) := by decide +kernel
theorem dX3_judgeNumber_63 : decode cX3_judgeNumber 63 = .ok (.ireturn, 1) := by decide +kernel
theorem dX3_judgeNumber_64 : decode cX3_judgeNumber 64 = .ok (.iconst 0, 1) := by decide +kernel
theorem dX3_judgeNumber_65 : decode cX3_judgeNumber 65 = .ok (.ireturn, 1) := by decide +kernel
theorem dX3_isInRange_0 : decode cX3_isInRange 0 = .ok (.iload_n 0, 1) := by decide +kernel
theorem dX3_isInRange_1 : decode cX3_isInRange 1 = .ok (.invokestatic 96, 3) := by decide +kernel
theorem dX3_isInRange_4 : decode cX3_isInRange 4 = .ok (.ifCond .eq 12, 3) := by decide +kernel
theorem dX3_isInRange_7 : decode cX3_isInRange 7 = .ok (.iload_n 1, 1) := by decide +kernel
theorem dX3_isInRange_8 : decode cX3_isInRange 8 = .ok (.ifCond .lt 8, 3) := by decide +kernel
theorem dX3_isInRange_11 : decode cX3_isInRange 11 = .ok (.iload_n 1, 1) := by decide +kernel
theorem dX3_isInRange_12 : decode cX3_isInRange 12 = .ok (.iconst 4, 1) := by decide +kernel
theorem dX3_isInRange_13 : decode cX3_isInRange 13 = .ok (.if_icmp .lt 5, 3) := by decide +kernel
theorem dX3_isInRange_16 : decode cX3_isInRange 16 = .ok (.iconst 0, 1) := by decide +kernel
theorem dX3_isInRange_17 : decode cX3_isInRange 17 = .ok (.ireturn, 1) := by decide +kernel
theorem dX3_isInRange_18 : decode cX3_isInRange 18 = .ok (.iload_n 0, 1) := by decide +kernel
theorem dX3_isInRange_19 : decode cX3_isInRange 19 = .ok (.iconst 4, 1) := by decide +kernel
theorem dX3_isInRange_20 : decode cX3_isInRange 20 = .ok (.imul, 1) := by decide +kernel
theorem dX3_isInRange_21 : decode cX3_isInRange 21 = .ok (.iload_n 1, 1) := by decide +kernel
theorem dX3_isInRange_22 : decode cX3_isInRange 22 = .ok (.iadd, 1) := by decide +kernel
theorem dX3_isInRange_23 : decode cX3_isInRange 23 = .ok (.istore_n 3, 1) := by decide +kernel
theorem dX3_isInRange_24 : decode cX3_isInRange 24 = .ok (.iload_n 2, 1) := by decide +kernel
theorem dX3_isInRange_25 : decode cX3_isInRange 25 = .ok (.getstatic 99, 3) := by decide +kernel
theorem dX3_isInRange_28 : decode cX3_isInRange 28 = .ok (.iload_n 3, 1) := by decide +kernel
theorem dX3_isInRange_29 : decode cX3_isInRange 29 = .ok (.iaload, 1) := by decide +kernel
theorem dX3_isInRange_30 : decode cX3_isInRange 30 = .ok (.if_icmp .lt 16, 3) := by decide +kernel
theorem dX3_isInRange_33 : decode cX3_isInRange 33 = .ok (.iload_n 2, 1) := by decide +kernel
theorem dX3_isInRange_34 : decode cX3_isInRange 34 = .ok (.getstatic 103, 3) := by decide +kernel
theorem dX3_isInRange_37 : decode cX3_isInRange 37 = .ok (.iload_n 3, 1) := by decide +kernel
theorem dX3_isInRange_38 : decode cX3_isInRange 38 = .ok (.iaload, 1) := by decide +kernel
theorem dX3_isInRange_39 : decode cX3_isInRange 39 = .ok (.if_icmp .gt 7, 3) := by decide +kernel
theorem dX3_isInRange_42 : decode cX3_isInRange 42 = .ok (.iconst 1, 1) := by decide +kernel
theorem dX3_isInRange_43 : decode cX3_isInRange 43 = .ok (.goto 4, 3) := by decide +kernel
theorem dX3_isInRange_46 : decode cX3_isInRange 46 = .ok (.iconst 0, 1) := by decide +kernel
theorem dX3_isInRange_47 : decode cX3_isInRange 47 = .ok (.ireturn, 1) := by decide +kernel
theorem dX1_setNumber_0 : decode cX1_setNumber 0 = .ok (.aload_n 0, 1) := by decide +kernel
theorem dX1_setNumber_1 : decode cX1_setNumber 1 = .ok (.getfield 21, 3) := by decide +kernel
theorem dX1_setNumber_4 : decode cX1_setNumber 4 = .ok (.ifCond .le 28, 3) := by decide +kernel
theorem dX1_setNumber_7 : decode cX1_setNumber 7 = .ok (.iload_n 1, 1) := by decide +kernel
theorem dX1_setNumber_8 : decode cX1_setNumber 8 = .ok (.ifCond .lt 24, 3) := by decide +kernel
theorem dX1_setNumber_11 : decode cX1_setNumber 11 = .ok (.iload_n 1, 1) := by decide +kernel
theorem dX1_setNumber_12 : decode cX1_setNumber 12 = .ok (.iconst 4, 1) := by decide +kernel
theorem dX1_setNumber_13 : decode cX1_setNumber 13 = .ok (.if_icmp .ge 19, 3) := by decide +kernel
theorem dX1_setNumber_16 : decode cX1_setNumber 16 = .ok (.aload_n 0, 1) := by decide +kernel
theorem dX1_setNumber_17 : decode cX1_setNumber 17 = .ok (.getfield 18, 3) := by decide +kernel
theorem dX1_setNumber_20 : decode cX1_setNumber 20 = .ok (.aload_n 0, 1) := by decide +kernel
theorem dX1_setNumber_21 : decode cX1_setNumber 21 = .ok (.getfield 21, 3) := by decide +kernel
theorem dX1_setNumber_24 : decode cX1_setNumber 24 = .ok (.iconst 1, 1) := by decide +kernel
theorem dX1_setNumber_25 : decode cX1_setNumber 25 = .ok (.isub, 1) := by decide +kernel
theorem dX1_setNumber_26 : decode cX1_setNumber 26 = .ok (.iconst 4, 1) := by decide +kernel
theorem dX1_setNumber_27 : decode cX1_setNumber 27 = .ok (.imul, 1) := by decide +kernel
theorem dX1_setNumber_28 : decode cX1_setNumber 28 = .ok (.iload_n 1, 1) := by decide +kernel
theorem dX1_setNumber_29 : decode cX1_setNumber 29 = .ok (.iadd, 1) := by decide +kernel
theorem dX1_setNumber_30 : decode cX1_setNumber 30 = .ok (.iload_n 2, 1) := by decide +kernel
theorem dX1_setNumber_31 : decode cX1_setNumber 31 = .ok (.iastore, 1) := by decide +kernel
theorem dX1_setNumber_32 : decode cX1_setNumber 32 = .ok (.return_, 1) := by decide +kernel
theorem dX3_result_0 : decode cX3_result 0 = .ok (.aload_n 0, 1) := by decide +kernel
theorem dX3_result_1 : decode cX3_result 1 = .ok (.getfield 18, 3) := by decide +kernel
theorem dX3_result_4 : decode cX3_result 4 = .ok (.areturn, 1) := by decide +kernel
theorem dX0_judge_0 : decode cX0_judge 0 = .ok (.aload_n 0, 1) := by decide +kernel
theorem dX0_judge_1 : decode cX0_judge 1 = .ok (.iconst 0, 1) := by decide +kernel
theorem dX0_judge_2 : decode cX0_judge 2 = .ok (.putfield 15, 3) := by decide +kernel
theorem dX0_judge_5 : decode cX0_judge 5 = .ok (.aload_n 2, 1) := by decide +kernel
theorem dX0_judge_6 : decode cX0_judge 6 = .ok (.aload_n 1, 1) := by decide +kernel
theorem dX0_judge_7 : decode cX0_judge 7 = .ok (.iconst 0, 1) := by decide +kernel
theorem dX0_judge_8 : decode cX0_judge 8 = .ok (.iconst 0, 1) := by decide +kernel
theorem dX0_judge_9 : decode cX0_judge 9 = .ok (.invokevirtual 19, 3) := by decide +kernel
theorem dX0_judge_12 : decode cX0_judge 12 = .ok (.iconst 0, 1) := by decide +kernel
theorem dX0_judge_13 : decode cX0_judge 13 = .ok (.istore_n 3, 1) := by decide +kernel
theorem dX0_judge_14 : decode cX0_judge 14 = .ok (.iload_n 3, 1) := by decide +kernel
theorem dX0_judge_15 : decode cX0_judge 15 = .ok (.iconst 3, 1) := by decide +kernel
theorem dX0_judge_16 : decode cX0_judge 16 = .ok (.if_icmp .gt 16, 3) := by decide +kernel
theorem dX0_judge_19 : decode cX0_judge 19 = .ok (.aload_n 0, 1) := by decide +kernel
theorem dX0_judge_20 : decode cX0_judge 20 = .ok (.aload_n 1, 1) := by decide +kernel
theorem dX0_judge_21 : decode cX0_judge 21 = .ok (.aload_n 2, 1) := by decide +kernel
theorem dX0_judge_22 : decode cX0_judge 22 = .ok (.iload_n 3, 1) := by decide +kernel
theorem dX0_judge_23 : decode cX0_judge 23 = .ok (.invokevirtual 25, 3) := by decide +kernel
theorem dX0_judge_26 : decode cX0_judge 26 = .ok (.iinc 3 1, 3) := by decide +kernel
theorem dX0_judge_29 : decode cX0_judge 29 = .ok (.goto (-15), 3) := by decide +kernel
theorem dX0_judge_32 : decode cX0_judge 32 = .ok (.return_, 1) := by decide +kernel
theorem dX4_spread_0 : decode cX4_spread 0 = .ok (.iconst 0, 1) := by decide +kernel
theorem dX4_spread_1 : decode cX4_spread 1 = .ok (.istore 4, 2) := by decide +kernel
theorem dX4_spread_3 : decode cX4_spread 3 = .ok (.iload 4, 2) := by decide +kernel
theorem dX4_spread_5 : decode cX4_spread 5 = .ok (.bipush 16, 2) := by decide +kernel
theorem dX4_spread_7 : decode cX4_spread 7 = .ok (.if_icmp .ge 28, 3) := by decide +kernel
theorem dX4_spread_10 : decode cX4_spread 10 = .ok (.aload_n 0, 1) := by decide +kernel
theorem dX4_spread_11 : decode cX4_spread 11 = .ok (.getfield 9, 3) := by decide +kernel
theorem dX4_spread_14 : decode cX4_spread 14 = .ok (.iload 4, 2) := by decide +kernel
theorem dX4_spread_16 : decode cX4_spread 16 = .ok (.iload 4, 2) := by decide +kernel
theorem dX4_spread_18 : decode cX4_spread 18 = .ok (.iload_n 3, 1) := by decide +kernel
theorem dX4_spread_19 : decode cX4_spread 19 = .ok (.if_icmp .ne 8, 3) := by decide +kernel
theorem dX4_spread_22 : decode cX4_spread 22 = .ok (.bipush 99, 2) := by decide +kernel
theorem dX4_spread_24 : decode cX4_spread 24 = .ok (.goto 4, 3) := by decide +kernel
theorem dX4_spread_27 : decode cX4_spread 27 = .ok (.iconst 0, 1) := by decide +kernel
theorem dX4_spread_28 : decode cX4_spread 28 = .ok (.iastore, 1) := by decide +kernel
theorem dX4_spread_29 : decode cX4_spread 29 = .ok (.iinc 4 1, 3) := by decide +kernel
theorem dX4_spread_32 : decode cX4_spread 32 = .ok (.goto (-29), 3) := by decide +kernel
theorem dX4_spread_35 : decode cX4_spread 35 = .ok (.iconst 1, 1) := by decide +kernel
theorem dX4_spread_36 : decode cX4_spread 36 = .ok (.istore 4, 2) := by decide +kernel
theorem dX4_spread_38 : decode cX4_spread 38 = .ok (.iconst 0, 1) := by decide +kernel
theorem dX4_spread_39 : decode cX4_spread 39 = .ok (.istore 5, 2) := by decide +kernel
theorem dX4_spread_41 : decode cX4_spread 41 = .ok (.iload 5, 2) := by decide +kernel
theorem dX4_spread_43 : decode cX4_spread 43 = .ok (.bipush 16, 2) := by decide +kernel
theorem dX4_spread_45 : decode cX4_spread 45 = .ok (.if_icmp .ge 22, 3) := by decide +kernel
theorem dX4_spread_48 : decode cX4_spread 48 = .ok (.iload 4, 2) := by decide +kernel
theorem dX4_spread_50 : decode cX4_spread 50 = .ok (.ifCond .eq 17, 3) := by decide +kernel
theorem dX4_spread_53 : decode cX4_spread 53 = .ok (.aload_n 0, 1) := by decide +kernel
theorem dX4_spread_54 : decode cX4_spread 54 = .ok (.aload_n 1, 1) := by decide +kernel
theorem dX4_spread_55 : decode cX4_spread 55 = .ok (.iload_n 2, 1) := by decide +kernel
theorem dX4_spread_56 : decode cX4_spread 56 = .ok (.invokevirtual 19, 3) := by decide +kernel
theorem dX4_spread_59 : decode cX4_spread 59 = .ok (.istore 4, 2) := by decide +kernel
theorem dX4_spread_61 : decode cX4_spread 61 = .ok (.iinc 5 1, 3) := by decide +kernel
theorem dX4_spread_64 : decode cX4_spread 64 = .ok (.goto (-23), 3) := by decide +kernel
theorem dX4_spread_67 : decode cX4_spread 67 = .ok (.return_, 1) := by decide +kernel
theorem dX4_spreadOnce_0 : decode cX4_spreadOnce 0 = .ok (.iconst 0, 1) := by decide +kernel
theorem dX4_spreadOnce_1 : decode cX4_spreadOnce 1 = .ok (.istore_n 3, 1) := by decide +kernel
theorem dX4_spreadOnce_2 : decode cX4_spreadOnce 2 = .ok (.aload_n 1, 1) := by decide +kernel
theorem dX4_spreadOnce_3 : decode cX4_spreadOnce 3 = .ok (.invokevirtual 23, 3) := by decide +kernel
theorem dX4_spreadOnce_6 : decode cX4_spreadOnce 6 = .ok (.istore 4, 2) := by decide +kernel
theorem dX4_spreadOnce_8 : decode cX4_spreadOnce 8 = .ok (.iconst 0, 1) := by decide +kernel
theorem dX4_spreadOnce_9 : decode cX4_spreadOnce 9 = .ok (.istore 5, 2) := by decide +kernel
theorem dX4_spreadOnce_11 : decode cX4_spreadOnce 11 = .ok (.iload 5, 2) := by decide +kernel
theorem dX4_spreadOnce_13 : decode cX4_spreadOnce 13 = .ok (.iload 4, 2) := by decide +kernel
theorem dX4_spreadOnce_15 : decode cX4_spreadOnce 15 = .ok (.if_icmp .ge 31, 3) := by decide +kernel
theorem dX4_spreadOnce_18 : decode cX4_spreadOnce 18 = .ok (.aload_n 1, 1) := by decide +kernel
theorem dX4_spreadOnce_19 : decode cX4_spreadOnce 19 = .ok (.iload 5, 2) := by decide +kernel
theorem dX4_spreadOnce_21 : decode cX4_spreadOnce 21 = .ok (.invokevirtual 29, 3) := by decide +kernel
theorem dX4_spreadOnce_24 : decode cX4_spreadOnce 24 = .ok (.iload_n 2, 1) := by decide +kernel
theorem dX4_spreadOnce_25 : decode cX4_spreadOnce 25 = .ok (.if_icmp .ne 15, 3) := by decide +kernel
theorem dX4_spreadOnce_28 : decode cX4_spreadOnce 28 = .ok (.aload_n 0, 1) := by decide +kernel
theorem dX4_spreadOnce_29 : decode cX4_spreadOnce 29 = .ok (.aload_n 1, 1) := by decide +kernel
theorem dX4_spreadOnce_30 : decode cX4_spreadOnce 30 = .ok (.iload 5, 2) := by decide +kernel
theorem dX4_spreadOnce_32 : decode cX4_spreadOnce 32 = .ok (.invokevirtual 33, 3) := by decide +kernel
theorem dX4_spreadOnce_35 : decode cX4_spreadOnce 35 = .ok (.ifCond .eq 5, 3) := by decide +kernel
theorem dX4_spreadOnce_38 : decode cX4_spreadOnce 38 = .ok (.iconst 1, 1) := by decide +kernel
theorem dX4_spreadOnce_39 : decode cX4_spreadOnce 39 = .ok (.istore_n 3, 1) := by decide +kernel
theorem dX4_spreadOnce_40 : decode cX4_spreadOnce 40 = .ok (.iinc 5 1, 3) := by decide +kernel
theorem dX4_spreadOnce_43 : decode cX4_spreadOnce 43 = .ok (.goto (-32), 3) := by decide +kernel
theorem dX4_spreadOnce_46 : decode cX4_spreadOnce 46 = .ok (.iload_n 3, 1) := by decide +kernel
theorem dX4_spreadOnce_47 : decode cX4_spreadOnce 47 = .ok (.ireturn, 1) := by decide +kernel
theorem dX4_spreadAlong_0 : decode cX4_spreadAlong 0 = .ok (.aload_n 1, 1) := by decide +kernel
theorem dX4_spreadAlong_1 : decode cX4_spreadAlong 1 = .ok (.iload_n 2, 1) := by decide +kernel
theorem dX4_spreadAlong_2 : decode cX4_spreadAlong 2 = .ok (.iconst 0, 1) := by decide +kernel
theorem dX4_spreadAlong_3 : decode cX4_spreadAlong 3 = .ok (.invokevirtual 36, 3) := by decide +kernel
theorem dX4_spreadAlong_6 : decode cX4_spreadAlong 6 = .ok (.istore_n 3, 1) := by decide +kernel
theorem dX4_spreadAlong_7 : decode cX4_spreadAlong 7 = .ok (.aload_n 1, 1) := by decide +kernel
theorem dX4_spreadAlong_8 : decode cX4_spreadAlong 8 = .ok (.iload_n 2, 1) := by decide +kernel
theorem dX4_spreadAlong_9 : decode cX4_spreadAlong 9 = .ok (.iconst 1, 1) := by decide +kernel
theorem dX4_spreadAlong_10 : decode cX4_spreadAlong 10 = .ok (.invokevirtual 36, 3) := by decide +kernel
theorem dX4_spreadAlong_13 : decode cX4_spreadAlong 13 = .ok (.istore 4, 2) := by decide +kernel
theorem dX4_spreadAlong_15 : decode cX4_spreadAlong 15 = .ok (.aload_n 1, 1) := by decide +kernel
theorem dX4_spreadAlong_16 : decode cX4_spreadAlong 16 = .ok (.iload_n 2, 1) := by decide +kernel
theorem dX4_spreadAlong_17 : decode cX4_spreadAlong 17 = .ok (.invokevirtual 29, 3) := by decide +kernel
theorem dX4_spreadAlong_20 : decode cX4_spreadAlong 20 = .ok (.iconst 4, 1) := by decide +kernel
theorem dX4_spreadAlong_21 : decode cX4_spreadAlong 21 = .ok (.if_icmp .ne 13, 3) := by decide +kernel
theorem dX4_spreadAlong_24 : decode cX4_spreadAlong 24 = .ok (.aload_n 0, 1) := by decide +kernel
theorem dX4_spreadAlong_25 : decode cX4_spreadAlong 25 = .ok (.iload_n 3, 1) := by decide +kernel
theorem dX4_spreadAlong_26 : decode cX4_spreadAlong 26 = .ok (.iload 4, 2) := by decide +kernel
theorem dX4_spreadAlong_28 : decode cX4_spreadAlong 28 = .ok (.bipush 99, 2) := by decide +kernel
theorem dX4_spreadAlong_30 : decode cX4_spreadAlong 30 = .ok (.invokevirtual 40, 3) := by decide +kernel
theorem dX4_spreadAlong_33 : decode cX4_spreadAlong 33 = .ok (.ireturn, 1) := by decide +kernel
theorem dX4_spreadAlong_34 : decode cX4_spreadAlong 34 = .ok (.aload_n 1, 1) := by decide +kernel
theorem dX4_spreadAlong_35 : decode cX4_spreadAlong 35 = .ok (.iload_n 2, 1) := by decide +kernel
theorem dX4_spreadAlong_36 : decode cX4_spreadAlong 36 = .ok (.iconst 3, 1) := by decide +kernel
theorem dX4_spreadAlong_37 : decode cX4_spreadAlong 37 = .ok (.invokevirtual 36, 3) := by decide +kernel
theorem dX4_spreadAlong_40 : decode cX4_spreadAlong 40 = .ok (.istore 5, 2) := by decide +kernel
theorem dX4_spreadAlong_42 : decode cX4_spreadAlong 42 = .ok (.aload_n 0, 1) := by decide +kernel
theorem dX4_spreadAlong_43 : decode cX4_spreadAlong 43 = .ok (.iload_n 3, 1) := by decide +kernel
theorem dX4_spreadAlong_44 : decode cX4_spreadAlong 44 = .ok (.iload 4, 2) := by decide +kernel
theorem dX4_spreadAlong_46 : decode cX4_spreadAlong 46 = .ok (.iload 5, 2) := by decide +kernel
theorem dX4_spreadAlong_48 : decode cX4_spreadAlong 48 = .ok (.invokevirtual 40, 3) := by decide +kernel
theorem dX4_spreadAlong_51 : decode cX4_spreadAlong 51 = .ok (.ifCond .ne 15, 3) := by decide +kernel
theorem dX4_spreadAlong_54 : decode cX4_spreadAlong 54 = .ok (.aload_n 0, 1) := by decide +kernel
theorem dX4_spreadAlong_55 : decode cX4_spreadAlong 55 = .ok (.iload 4, 2) := by decide +kernel
theorem dX4_spreadAlong_57 : decode cX4_spreadAlong 57 = .ok (.iload_n 3, 1) := by decide +kernel
theorem dX4_spreadAlong_58 : decode cX4_spreadAlong 58 = .ok (.iload 5, 2) := by decide +kernel
theorem dX4_spreadAlong_60 : decode cX4_spreadAlong 60 = .ok (.invokevirtual 40, 3) := by decide +kernel
theorem dX4_spreadAlong_63 : decode cX4_spreadAlong 63 = .ok (.ifCond .eq 7, 3) := by decide +kernel
theorem dX4_spreadAlong_66 : decode cX4_spreadAlong 66 = .ok (.iconst 1, 1) := by decide +kernel
theorem dX4_spreadAlong_67 : decode cX4_spreadAlong 67 = .ok (.goto 4, 3) := by decide +kernel
theorem dX4_spreadAlong_70 : decode cX4_spreadAlong 70 = .ok (.iconst 0, 1) := by decide +kernel
theorem dX4_spreadAlong_71 : decode cX4_spreadAlong 71 = .ok (.ireturn, 1) := by decide +kernel
theorem dX4_deepen_0 : decode cX4_deepen 0 = .ok (.iload_n 1, 1) := by decide +kernel
theorem dX4_deepen_1 : decode cX4_deepen 1 = .ok (.invokestatic 15, 3) := by decide +kernel
theorem dX4_deepen_4 : decode cX4_deepen 4 = .ok (.ifCond .eq 10, 3) := by decide +kernel
theorem dX4_deepen_7 : decode cX4_deepen 7 = .ok (.iload_n 2, 1) := by decide +kernel
theorem dX4_deepen_8 : decode cX4_deepen 8 = .ok (.invokestatic 15, 3) := by decide +kernel
theorem dX4_deepen_11 : decode cX4_deepen 11 = .ok (.ifCond .ne 5, 3) := by decide +kernel
theorem dX4_deepen_14 : decode cX4_deepen 14 = .ok (.iconst 0, 1) := by decide +kernel
theorem dX4_deepen_15 : decode cX4_deepen 15 = .ok (.ireturn, 1) := by decide +kernel
theorem dX4_deepen_16 : decode cX4_deepen 16 = .ok (.aload_n 0, 1) := by decide +kernel
theorem dX4_deepen_17 : decode cX4_deepen 17 = .ok (.getfield 9, 3) := by decide +kernel
theorem dX4_deepen_20 : decode cX4_deepen 20 = .ok (.iload_n 1, 1) := by decide +kernel
theorem dX4_deepen_21 : decode cX4_deepen 21 = .ok (.iaload, 1) := by decide +kernel
theorem dX4_deepen_22 : decode cX4_deepen 22 = .ok (.iload_n 3, 1) := by decide +kernel
theorem dX4_deepen_23 : decode cX4_deepen 23 = .ok (.invokestatic 44, 3) := by decide +kernel
theorem dX4_deepen_26 : decode cX4_deepen 26 = .ok (.istore 4, 2) := by decide +kernel
theorem dX4_deepen_28 : decode cX4_deepen 28 = .ok (.iload 4, 2) := by decide +kernel
theorem dX4_deepen_30 : decode cX4_deepen 30 = .ok (.aload_n 0, 1) := by decide +kernel
theorem dX4_deepen_31 : decode cX4_deepen 31 = .ok (.getfield 9, 3) := by decide +kernel
theorem dX4_deepen_34 : decode cX4_deepen 34 = .ok (.iload_n 2, 1) := by decide +kernel
theorem dX4_deepen_35 : decode cX4_deepen 35 = .ok (.iaload, 1) := by decide +kernel
theorem dX4_deepen_36 : decode cX4_deepen 36 = .ok (.if_icmp .gt 5, 3) := by decide +kernel
theorem dX4_deepen_39 : decode cX4_deepen 39 = .ok (.iconst 0, 1) := by decide +kernel
theorem dX4_deepen_40 : decode cX4_deepen 40 = .ok (.ireturn, 1) := by decide +kernel
theorem dX4_deepen_41 : decode cX4_deepen 41 = .ok (.aload_n 0, 1) := by decide +kernel
theorem dX4_deepen_42 : decode cX4_deepen 42 = .ok (.getfield 9, 3) := by decide +kernel
theorem dX4_deepen_45 : decode cX4_deepen 45 = .ok (.iload_n 2, 1) := by decide +kernel
theorem dX4_deepen_46 : decode cX4_deepen 46 = .ok (.iload 4, 2) := by decide +kernel
theorem dX4_deepen_48 : decode cX4_deepen 48 = .ok (.iastore, 1) := by decide +kernel
theorem dX4_deepen_49 : decode cX4_deepen 49 = .ok (.iconst 1, 1) := by decide +kernel
theorem dX4_deepen_50 : decode cX4_deepen 50 = .ok (.ireturn, 1) := by decide +kernel
theorem dX5_isPoint_0 : decode cX5_isPoint 0 = .ok (.iload_n 0, 1) := by decide +kernel
theorem dX5_isPoint_1 : decode cX5_isPoint 1 = .ok (.ifCond .lt 13, 3) := by decide +kernel
theorem dX5_isPoint_4 : decode cX5_isPoint 4 = .ok (.iload_n 0, 1) := by decide +kernel
theorem dX5_isPoint_5 : decode cX5_isPoint 5 = .ok (.bipush 16, 2) := by decide +kernel
theorem dX5_isPoint_7 : decode cX5_isPoint 7 = .ok (.if_icmp .ge 7, 3) := by decide +kernel
theorem dX5_isPoint_10 : decode cX5_isPoint 10 = .ok (.iconst 1, 1) := by decide +kernel
theorem dX5_isPoint_11 : decode cX5_isPoint 11 = .ok (.goto 4, 3) := by decide +kernel
theorem dX5_isPoint_14 : decode cX5_isPoint 14 = .ok (.iconst 0, 1) := by decide +kernel
theorem dX5_isPoint_15 : decode cX5_isPoint 15 = .ok (.ireturn, 1) := by decide +kernel
theorem dX0_addAll_0 : decode cX0_addAll 0 = .ok (.aload_n 1, 1) := by decide +kernel
theorem dX0_addAll_1 : decode cX0_addAll 1 = .ok (.invokevirtual 29, 3) := by decide +kernel
theorem dX0_addAll_4 : decode cX0_addAll 4 = .ok (.istore 4, 2) := by decide +kernel
theorem dX0_addAll_6 : decode cX0_addAll 6 = .ok (.iconst 0, 1) := by decide +kernel
theorem dX0_addAll_7 : decode cX0_addAll 7 = .ok (.istore 5, 2) := by decide +kernel
theorem dX0_addAll_9 : decode cX0_addAll 9 = .ok (.iload 5, 2) := by decide +kernel
theorem dX0_addAll_11 : decode cX0_addAll 11 = .ok (.iload 4, 2) := by decide +kernel
theorem dX0_addAll_13 : decode cX0_addAll 13 = .ok (.if_icmp .ge 58, 3) := by decide +kernel
theorem dX0_addAll_16 : decode cX0_addAll 16 = .ok (.aload_n 0, 1) := by decide +kernel
theorem dX0_addAll_17 : decode cX0_addAll 17 = .ok (.getfield 15, 3) := by decide +kernel
theorem dX0_addAll_20 : decode cX0_addAll 20 = .ok (.aload_n 0, 1) := by decide +kernel
theorem dX0_addAll_21 : decode cX0_addAll 21 = .ok (.getfield 9, 3) := by decide +kernel
theorem dX0_addAll_24 : decode cX0_addAll 24 = .ok (.arraylength, 1) := by decide +kernel
theorem dX0_addAll_25 : decode cX0_addAll 25 = .ok (.if_icmp .ge 40, 3) := by decide +kernel
theorem dX0_addAll_28 : decode cX0_addAll 28 = .ok (.aload_n 1, 1) := by decide +kernel
theorem dX0_addAll_29 : decode cX0_addAll 29 = .ok (.aload_n 2, 1) := by decide +kernel
theorem dX0_addAll_30 : decode cX0_addAll 30 = .ok (.iload_n 3, 1) := by decide +kernel
theorem dX0_addAll_31 : decode cX0_addAll 31 = .ok (.iload 5, 2) := by decide +kernel
theorem dX0_addAll_33 : decode cX0_addAll 33 = .ok (.invokestatic 34, 3) := by decide +kernel
theorem dX0_addAll_36 : decode cX0_addAll 36 = .ok (.ifCond .eq 29, 3) := by decide +kernel
theorem dX0_addAll_39 : decode cX0_addAll 39 = .ok (.aload_n 0, 1) := by decide +kernel
theorem dX0_addAll_40 : decode cX0_addAll 40 = .ok (.getfield 9, 3) := by decide +kernel
theorem dX0_addAll_43 : decode cX0_addAll 43 = .ok (.aload_n 0, 1) := by decide +kernel
theorem dX0_addAll_44 : decode cX0_addAll 44 = .ok (.getfield 15, 3) := by decide +kernel
theorem dX0_addAll_47 : decode cX0_addAll 47 = .ok (.bipush 10, 2) := by decide +kernel
theorem dX0_addAll_49 : decode cX0_addAll 49 = .ok (.iload 5, 2) := by decide +kernel
theorem dX0_addAll_51 : decode cX0_addAll 51 = .ok (.imul, 1) := by decide +kernel
theorem dX0_addAll_52 : decode cX0_addAll 52 = .ok (.iload_n 3, 1) := by decide +kernel
theorem dX0_addAll_53 : decode cX0_addAll 53 = .ok (.iadd, 1) := by decide +kernel
theorem dX0_addAll_54 : decode cX0_addAll 54 = .ok (.iastore, 1) := by decide +kernel
theorem dX0_addAll_55 : decode cX0_addAll 55 = .ok (.aload_n 0, 1) := by decide +kernel
theorem dX0_addAll_56 : decode cX0_addAll 56 = .ok (.dup, 1) := by decide +kernel
theorem dX0_addAll_57 : decode cX0_addAll 57 = .ok (.getfield 15, 3) := by decide +kernel
theorem dX0_addAll_60 : decode cX0_addAll 60 = .ok (.iconst 1, 1) := by decide +kernel
theorem dX0_addAll_61 : decode cX0_addAll 61 = .ok (.iadd, 1) := by decide +kernel
theorem dX0_addAll_62 : decode cX0_addAll 62 = .ok (.putfield 15, 3) := by decide +kernel
theorem dX0_addAll_65 : decode cX0_addAll 65 = .ok (.iinc 5 1, 3) := by decide +kernel
theorem dX0_addAll_68 : decode cX0_addAll 68 = .ok (.goto (-59), 3) := by decide +kernel
theorem dX0_addAll_71 : decode cX0_addAll 71 = .ok (.return_, 1) := by decide +kernel
theorem dX0_holds_0 : decode cX0_holds 0 = .ok (.aload_n 0, 1) := by decide +kernel
theorem dX0_holds_1 : decode cX0_holds 1 = .ok (.iload_n 3, 1) := by decide +kernel
theorem dX0_holds_2 : decode cX0_holds 2 = .ok (.invokevirtual 38, 3) := by decide +kernel
theorem dX0_holds_5 : decode cX0_holds 5 = .ok (.istore 4, 2) := by decide +kernel
theorem dX0_holds_7 : decode cX0_holds 7 = .ok (.aload_n 0, 1) := by decide +kernel
theorem dX0_holds_8 : decode cX0_holds 8 = .ok (.iload_n 3, 1) := by decide +kernel
theorem dX0_holds_9 : decode cX0_holds 9 = .ok (.iconst 0, 1) := by decide +kernel
theorem dX0_holds_10 : decode cX0_holds 10 = .ok (.invokevirtual 42, 3) := by decide +kernel
theorem dX0_holds_13 : decode cX0_holds 13 = .ok (.istore 5, 2) := by decide +kernel
theorem dX0_holds_15 : decode cX0_holds 15 = .ok (.iload_n 2, 1) := by decide +kernel
theorem dX0_holds_16 : decode cX0_holds 16 = .ok (.tableswitch 135 0 3 #[32, 60, 88, 108], 32) := by decide +kernel
theorem dX0_holds_48 : decode cX0_holds 48 = .ok (.iload 4, 2) := by decide +kernel
theorem dX0_holds_50 : decode cX0_holds 50 = .ok (.iconst 1, 1) := by decide +kernel
theorem dX0_holds_51 : decode cX0_holds 51 = .ok (.if_icmp .eq 9, 3) := by decide +kernel
theorem dX0_holds_54 : decode cX0_holds 54 = .ok (.iload 4, 2) := by decide +kernel
theorem dX0_holds_56 : decode cX0_holds 56 = .ok (.iconst 2, 1) := by decide +kernel
theorem dX0_holds_57 : decode cX0_holds 57 = .ok (.if_icmp .ne 17, 3) := by decide +kernel
theorem dX0_holds_60 : decode cX0_holds 60 = .ok (.aload_n 0, 1) := by decide +kernel
theorem dX0_holds_61 : decode cX0_holds 61 = .ok (.iconst 0, 1) := by decide +kernel
theorem dX0_holds_62 : decode cX0_holds 62 = .ok (.iload 5, 2) := by decide +kernel
theorem dX0_holds_64 : decode cX0_holds 64 = .ok (.invokevirtual 46, 3) := by decide +kernel
theorem dX0_holds_67 : decode cX0_holds 67 = .ok (.ifCond .ne 7, 3) := by decide +kernel
theorem dX0_holds_70 : decode cX0_holds 70 = .ok (.iconst 1, 1) := by decide +kernel
theorem dX0_holds_71 : decode cX0_holds 71 = .ok (.goto 4, 3) := by decide +kernel
theorem dX0_holds_74 : decode cX0_holds 74 = .ok (.iconst 0, 1) := by decide +kernel
theorem dX0_holds_75 : decode cX0_holds 75 = .ok (.ireturn, 1) := by decide +kernel
theorem dX0_holds_76 : decode cX0_holds 76 = .ok (.iload 4, 2) := by decide +kernel
theorem dX0_holds_78 : decode cX0_holds 78 = .ok (.iconst 3, 1) := by decide +kernel
theorem dX0_holds_79 : decode cX0_holds 79 = .ok (.if_icmp .eq 9, 3) := by decide +kernel
theorem dX0_holds_82 : decode cX0_holds 82 = .ok (.iload 4, 2) := by decide +kernel
theorem dX0_holds_84 : decode cX0_holds 84 = .ok (.iconst 5, 1) := by decide +kernel
theorem dX0_holds_85 : decode cX0_holds 85 = .ok (.if_icmp .ne 17, 3) := by decide +kernel
theorem dX0_holds_88 : decode cX0_holds 88 = .ok (.aload_n 0, 1) := by decide +kernel
theorem dX0_holds_89 : decode cX0_holds 89 = .ok (.iconst 4, 1) := by decide +kernel
theorem dX0_holds_90 : decode cX0_holds 90 = .ok (.iload 5, 2) := by decide +kernel
theorem dX0_holds_92 : decode cX0_holds 92 = .ok (.invokevirtual 46, 3) := by decide +kernel
theorem dX0_holds_95 : decode cX0_holds 95 = .ok (.ifCond .ne 7, 3) := by decide +kernel
theorem dX0_holds_98 : decode cX0_holds 98 = .ok (.iconst 1, 1) := by decide +kernel
theorem dX0_holds_99 : decode cX0_holds 99 = .ok (.goto 4, 3) := by decide +kernel
theorem dX0_holds_102 : decode cX0_holds 102 = .ok (.iconst 0, 1) := by decide +kernel
theorem dX0_holds_103 : decode cX0_holds 103 = .ok (.ireturn, 1) := by decide +kernel
theorem dX0_holds_104 : decode cX0_holds 104 = .ok (.iload 4, 2) := by decide +kernel
theorem dX0_holds_106 : decode cX0_holds 106 = .ok (.ifCond .ne 16, 3) := by decide +kernel
theorem dX0_holds_109 : decode cX0_holds 109 = .ok (.aload_n 0, 1) := by decide +kernel
theorem dX0_holds_110 : decode cX0_holds 110 = .ok (.iload_n 3, 1) := by decide +kernel
theorem dX0_holds_111 : decode cX0_holds 111 = .ok (.iconst 2, 1) := by decide +kernel
theorem dX0_holds_112 : decode cX0_holds 112 = .ok (.invokevirtual 42, 3) := by decide +kernel
theorem dX0_holds_115 : decode cX0_holds 115 = .ok (.ifCond .ne 7, 3) := by decide +kernel
theorem dX0_holds_118 : decode cX0_holds 118 = .ok (.iconst 1, 1) := by decide +kernel
theorem dX0_holds_119 : decode cX0_holds 119 = .ok (.goto 4, 3) := by decide +kernel
theorem dX0_holds_122 : decode cX0_holds 122 = .ok (.iconst 0, 1) := by decide +kernel
theorem dX0_holds_123 : decode cX0_holds 123 = .ok (.ireturn, 1) := by decide +kernel
theorem dX0_holds_124 : decode cX0_holds 124 = .ok (.iload 4, 2) := by decide +kernel
theorem dX0_holds_126 : decode cX0_holds 126 = .ok (.iconst 2, 1) := by decide +kernel
theorem dX0_holds_127 : decode cX0_holds 127 = .ok (.if_icmp .ne 22, 3) := by decide +kernel
theorem dX0_holds_130 : decode cX0_holds 130 = .ok (.aload_n 0, 1) := by decide +kernel
theorem dX0_holds_131 : decode cX0_holds 131 = .ok (.iload_n 3, 1) := by decide +kernel
theorem dX0_holds_132 : decode cX0_holds 132 = .ok (.iconst 2, 1) := by decide +kernel
theorem dX0_holds_133 : decode cX0_holds 133 = .ok (.invokevirtual 42, 3) := by decide +kernel
theorem dX0_holds_136 : decode cX0_holds 136 = .ok (.aload_n 1, 1) := by decide +kernel
theorem dX0_holds_137 : decode cX0_holds 137 = .ok (.iload 5, 2) := by decide +kernel
theorem dX0_holds_139 : decode cX0_holds 139 = .ok (.invokevirtual 50, 3) := by decide +kernel
theorem dX0_holds_142 : decode cX0_holds 142 = .ok (.if_icmp .le 7, 3) := by decide +kernel
theorem dX0_holds_145 : decode cX0_holds 145 = .ok (.iconst 1, 1) := by decide +kernel
theorem dX0_holds_146 : decode cX0_holds 146 = .ok (.goto 4, 3) := by decide +kernel
theorem dX0_holds_149 : decode cX0_holds 149 = .ok (.iconst 0, 1) := by decide +kernel
theorem dX0_holds_150 : decode cX0_holds 150 = .ok (.ireturn, 1) := by decide +kernel
theorem dX0_holds_151 : decode cX0_holds 151 = .ok (.iconst 0, 1) := by decide +kernel
theorem dX0_holds_152 : decode cX0_holds 152 = .ok (.ireturn, 1) := by decide +kernel
theorem dX1_hasPieceAt_0 : decode cX1_hasPieceAt 0 = .ok (.iconst 0, 1) := by decide +kernel
theorem dX1_hasPieceAt_1 : decode cX1_hasPieceAt 1 = .ok (.istore_n 3, 1) := by decide +kernel
theorem dX1_hasPieceAt_2 : decode cX1_hasPieceAt 2 = .ok (.iload_n 3, 1) := by decide +kernel
theorem dX1_hasPieceAt_3 : decode cX1_hasPieceAt 3 = .ok (.aload_n 0, 1) := by decide +kernel
theorem dX1_hasPieceAt_4 : decode cX1_hasPieceAt 4 = .ok (.getfield 21, 3) := by decide +kernel
theorem dX1_hasPieceAt_7 : decode cX1_hasPieceAt 7 = .ok (.if_icmp .ge 41, 3) := by decide +kernel
theorem dX1_hasPieceAt_10 : decode cX1_hasPieceAt 10 = .ok (.aload_n 0, 1) := by decide +kernel
theorem dX1_hasPieceAt_11 : decode cX1_hasPieceAt 11 = .ok (.getfield 9, 3) := by decide +kernel
theorem dX1_hasPieceAt_14 : decode cX1_hasPieceAt 14 = .ok (.iload_n 3, 1) := by decide +kernel
theorem dX1_hasPieceAt_15 : decode cX1_hasPieceAt 15 = .ok (.iaload, 1) := by decide +kernel
theorem dX1_hasPieceAt_16 : decode cX1_hasPieceAt 16 = .ok (.iload_n 1, 1) := by decide +kernel
