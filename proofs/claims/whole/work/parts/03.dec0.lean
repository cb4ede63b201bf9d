theorem dX5_init_0 : decode cX5_init 0 = .ok (.aload_n 0, 1) := by decide +kernel
theorem dX5_init_1 : decode cX5_init 1 = .ok (.invokespecial 1, 3) := by decide +kernel
theorem dX5_init_4 : decode cX5_init 4 = .ok (.aload_n 0, 1) := by decide +kernel
theorem dX5_init_5 : decode cX5_init 5 = .ok (.new 7, 3) := by decide +kernel
theorem dX5_init_8 : decode cX5_init 8 = .ok (.dup, 1) := by decide +kernel
theorem dX5_init_9 : decode cX5_init 9 = .ok (.invokespecial 9, 3) := by decide +kernel
theorem dX5_init_12 : decode cX5_init 12 = .ok (.putfield 10, 3) := by decide +kernel
theorem dX5_init_15 : decode cX5_init 15 = .ok (.aload_n 0, 1) := by decide +kernel
theorem dX5_init_16 : decode cX5_init 16 = .ok (.new 16, 3) := by decide +kernel
theorem dX5_init_19 : decode cX5_init 19 = .ok (.dup, 1) := by decide +kernel
theorem dX5_init_20 : decode cX5_init 20 = .ok (.invokespecial 18, 3) := by decide +kernel
theorem dX5_init_23 : decode cX5_init 23 = .ok (.putfield 19, 3) := by decide +kernel
theorem dX5_init_26 : decode cX5_init 26 = .ok (.aload_n 0, 1) := by decide +kernel
theorem dX5_init_27 : decode cX5_init 27 = .ok (.new 16, 3) := by decide +kernel
theorem dX5_init_30 : decode cX5_init 30 = .ok (.dup, 1) := by decide +kernel
theorem dX5_init_31 : decode cX5_init 31 = .ok (.invokespecial 18, 3) := by decide +kernel
theorem dX5_init_34 : decode cX5_init 34 = .ok (.putfield 23, 3) := by decide +kernel
theorem dX5_init_37 : decode cX5_init 37 = .ok (.aload_n 0, 1) := by decide +kernel
theorem dX5_init_38 : decode cX5_init 38 = .ok (.new 26, 3) := by decide +kernel
theorem dX5_init_41 : decode cX5_init 41 = .ok (.dup, 1) := by decide +kernel
theorem dX5_init_42 : decode cX5_init 42 = .ok (.invokespecial 28, 3) := by decide +kernel
theorem dX5_init_45 : decode cX5_init 45 = .ok (.putfield 29, 3) := by decide +kernel
theorem dX5_init_48 : decode cX5_init 48 = .ok (.aload_n 0, 1) := by decide +kernel
theorem dX5_init_49 : decode cX5_init 49 = .ok (.new 33, 3) := by decide +kernel
theorem dX5_init_52 : decode cX5_init 52 = .ok (.dup, 1) := by decide +kernel
theorem dX5_init_53 : decode cX5_init 53 = .ok (.invokespecial 35, 3) := by decide +kernel
theorem dX5_init_56 : decode cX5_init 56 = .ok (.putfield 36, 3) := by decide +kernel
theorem dX5_init_59 : decode cX5_init 59 = .ok (.aload_n 0, 1) := by decide +kernel
theorem dX5_init_60 : decode cX5_init 60 = .ok (.new 40, 3) := by decide +kernel
theorem dX5_init_63 : decode cX5_init 63 = .ok (.dup, 1) := by decide +kernel
theorem dX5_init_64 : decode cX5_init 64 = .ok (.invokespecial 42, 3) := by decide +kernel
theorem dX5_init_67 : decode cX5_init 67 = .ok (.putfield 43, 3) := by decide +kernel
theorem dX5_init_70 : decode cX5_init 70 = .ok (.return_, 1) := by decide +kernel
theorem dX3_init_0 : decode cX3_init 0 = .ok (.aload_n 0, 1) := by decide +kernel
theorem dX3_init_1 : decode cX3_init 1 = .ok (.invokespecial 3, 3) := by decide +kernel
theorem dX3_init_4 : decode cX3_init 4 = .ok (.aload_n 0, 1) := by decide +kernel
theorem dX3_init_5 : decode cX3_init 5 = .ok (.sipush 500, 3) := by decide +kernel
theorem dX3_init_8 : decode cX3_init 8 = .ok (.newarray .char, 2) := by decide +kernel
theorem dX3_init_10 : decode cX3_init 10 = .ok (.putfield 9, 3) := by decide +kernel
theorem dX3_init_13 : decode cX3_init 13 = .ok (.aload_n 0, 1) := by decide +kernel
theorem dX3_init_14 : decode cX3_init 14 = .ok (.new 15, 3) := by decide +kernel
theorem dX3_init_17 : decode cX3_init 17 = .ok (.dup, 1) := by decide +kernel
theorem dX3_init_18 : decode cX3_init 18 = .ok (.invokespecial 17, 3) := by decide +kernel
theorem dX3_init_21 : decode cX3_init 21 = .ok (.putfield 18, 3) := by decide +kernel
theorem dX3_init_24 : decode cX3_init 24 = .ok (.aload_n 0, 1) := by decide +kernel
theorem dX3_init_25 : decode cX3_init 25 = .ok (.iconst 0, 1) := by decide +kernel
theorem dX3_init_26 : decode cX3_init 26 = .ok (.putfield 22, 3) := by decide +kernel
theorem dX3_init_29 : decode cX3_init 29 = .ok (.aload_n 0, 1) := by decide +kernel
theorem dX3_init_30 : decode cX3_init 30 = .ok (.iconst 0, 1) := by decide +kernel
theorem dX3_init_31 : decode cX3_init 31 = .ok (.putfield 26, 3) := by decide +kernel
theorem dX3_init_34 : decode cX3_init 34 = .ok (.aload_n 0, 1) := by decide +kernel
theorem dX3_init_35 : decode cX3_init 35 = .ok (.iconst 0, 1) := by decide +kernel
theorem dX3_init_36 : decode cX3_init 36 = .ok (.putfield 29, 3) := by decide +kernel
theorem dX3_init_39 : decode cX3_init 39 = .ok (.aload_n 0, 1) := by decide +kernel
theorem dX3_init_40 : decode cX3_init 40 = .ok (.iconst (-1), 1) := by decide +kernel
theorem dX3_init_41 : decode cX3_init 41 = .ok (.putfield 32, 3) := by decide +kernel
theorem dX3_init_44 : decode cX3_init 44 = .ok (.return_, 1) := by decide +kernel
theorem dX1_init_0 : decode cX1_init 0 = .ok (.aload_n 0, 1) := by decide +kernel
theorem dX1_init_1 : decode cX1_init 1 = .ok (.invokespecial 3, 3) := by decide +kernel
theorem dX1_init_4 : decode cX1_init 4 = .ok (.aload_n 0, 1) := by decide +kernel
theorem dX1_init_5 : decode cX1_init 5 = .ok (.bipush 50, 2) := by decide +kernel
theorem dX1_init_7 : decode cX1_init 7 = .ok (.newarray .int, 2) := by decide +kernel
theorem dX1_init_9 : decode cX1_init 9 = .ok (.putfield 9, 3) := by decide +kernel
theorem dX1_init_12 : decode cX1_init 12 = .ok (.aload_n 0, 1) := by decide +kernel
theorem dX1_init_13 : decode cX1_init 13 = .ok (.bipush 50, 2) := by decide +kernel
theorem dX1_init_15 : decode cX1_init 15 = .ok (.newarray .int, 2) := by decide +kernel
theorem dX1_init_17 : decode cX1_init 17 = .ok (.putfield 15, 3) := by decide +kernel
theorem dX1_init_20 : decode cX1_init 20 = .ok (.aload_n 0, 1) := by decide +kernel
theorem dX1_init_21 : decode cX1_init 21 = .ok (.sipush 200, 3) := by decide +kernel
theorem dX1_init_24 : decode cX1_init 24 = .ok (.newarray .int, 2) := by decide +kernel
theorem dX1_init_26 : decode cX1_init 26 = .ok (.putfield 18, 3) := by decide +kernel
theorem dX1_init_29 : decode cX1_init 29 = .ok (.aload_n 0, 1) := by decide +kernel
theorem dX1_init_30 : decode cX1_init 30 = .ok (.iconst 0, 1) := by decide +kernel
theorem dX1_init_31 : decode cX1_init 31 = .ok (.putfield 21, 3) := by decide +kernel
theorem dX1_init_34 : decode cX1_init 34 = .ok (.return_, 1) := by decide +kernel
theorem dX4_init_0 : decode cX4_init 0 = .ok (.aload_n 0, 1) := by decide +kernel
theorem dX4_init_1 : decode cX4_init 1 = .ok (.invokespecial 3, 3) := by decide +kernel
theorem dX4_init_4 : decode cX4_init 4 = .ok (.aload_n 0, 1) := by decide +kernel
theorem dX4_init_5 : decode cX4_init 5 = .ok (.bipush 16, 2) := by decide +kernel
theorem dX4_init_7 : decode cX4_init 7 = .ok (.newarray .int, 2) := by decide +kernel
theorem dX4_init_9 : decode cX4_init 9 = .ok (.putfield 9, 3) := by decide +kernel
theorem dX4_init_12 : decode cX4_init 12 = .ok (.return_, 1) := by decide +kernel
theorem dX0_init_0 : decode cX0_init 0 = .ok (.aload_n 0, 1) := by decide +kernel
theorem dX0_init_1 : decode cX0_init 1 = .ok (.invokespecial 3, 3) := by decide +kernel
theorem dX0_init_4 : decode cX0_init 4 = .ok (.aload_n 0, 1) := by decide +kernel
theorem dX0_init_5 : decode cX0_init 5 = .ok (.bipush 100, 2) := by decide +kernel
theorem dX0_init_7 : decode cX0_init 7 = .ok (.newarray .int, 2) := by decide +kernel
theorem dX0_init_9 : decode cX0_init 9 = .ok (.putfield 9, 3) := by decide +kernel
theorem dX0_init_12 : decode cX0_init 12 = .ok (.aload_n 0, 1) := by decide +kernel
theorem dX0_init_13 : decode cX0_init 13 = .ok (.iconst 0, 1) := by decide +kernel
theorem dX0_init_14 : decode cX0_init 14 = .ok (.putfield 15, 3) := by decide +kernel
theorem dX0_init_17 : decode cX0_init 17 = .ok (.return_, 1) := by decide +kernel
theorem dX2_init_0 : decode cX2_init 0 = .ok (.aload_n 0, 1) := by decide +kernel
theorem dX2_init_1 : decode cX2_init 1 = .ok (.invokespecial 3, 3) := by decide +kernel
theorem dX2_init_4 : decode cX2_init 4 = .ok (.aload_n 0, 1) := by decide +kernel
theorem dX2_init_5 : decode cX2_init 5 = .ok (.sipush 500, 3) := by decide +kernel
theorem dX2_init_8 : decode cX2_init 8 = .ok (.newarray .char, 2) := by decide +kernel
theorem dX2_init_10 : decode cX2_init 10 = .ok (.putfield 9, 3) := by decide +kernel
theorem dX2_init_13 : decode cX2_init 13 = .ok (.aload_n 0, 1) := by decide +kernel
theorem dX2_init_14 : decode cX2_init 14 = .ok (.iconst 0, 1) := by decide +kernel
theorem dX2_init_15 : decode cX2_init 15 = .ok (.putfield 15, 3) := by decide +kernel
theorem dX2_init_18 : decode cX2_init 18 = .ok (.return_, 1) := by decide +kernel
theorem dX5_sign_0 : decode cX5_sign 0 = .ok (.aload_n 0, 1) := by decide +kernel
theorem dX5_sign_1 : decode cX5_sign 1 = .ok (.getfield 10, 3) := by decide +kernel
theorem dX5_sign_4 : decode cX5_sign 4 = .ok (.iload_n 1, 1) := by decide +kernel
theorem dX5_sign_5 : decode cX5_sign 5 = .ok (.invokevirtual 47, 3) := by decide +kernel
theorem dX5_sign_8 : decode cX5_sign 8 = .ok (.ireturn, 1) := by decide +kernel
theorem dX3_collect_0 : decode cX3_collect 0 = .ok (.iload_n 1, 1) := by decide +kernel
theorem dX3_collect_1 : decode cX3_collect 1 = .ok (.bipush 33, 2) := by decide +kernel
theorem dX3_collect_3 : decode cX3_collect 3 = .ok (.if_icmp .lt 19, 3) := by decide +kernel
theorem dX3_collect_6 : decode cX3_collect 6 = .ok (.iload_n 1, 1) := by decide +kernel
theorem dX3_collect_7 : decode cX3_collect 7 = .ok (.bipush 126, 2) := by decide +kernel
theorem dX3_collect_9 : decode cX3_collect 9 = .ok (.if_icmp .gt 13, 3) := by decide +kernel
theorem dX3_collect_12 : decode cX3_collect 12 = .ok (.aload_n 0, 1) := by decide +kernel
theorem dX3_collect_13 : decode cX3_collect 13 = .ok (.getfield 22, 3) := by decide +kernel
theorem dX3_collect_16 : decode cX3_collect 16 = .ok (.sipush 500, 3) := by decide +kernel
theorem dX3_collect_19 : decode cX3_collect 19 = .ok (.if_icmp .lt 5, 3) := by decide +kernel
theorem dX3_collect_22 : decode cX3_collect 22 = .ok (.iconst 0, 1) := by decide +kernel
theorem dX3_collect_23 : decode cX3_collect 23 = .ok (.ireturn, 1) := by decide +kernel
theorem dX3_collect_24 : decode cX3_collect 24 = .ok (.aload_n 0, 1) := by decide +kernel
theorem dX3_collect_25 : decode cX3_collect 25 = .ok (.getfield 9, 3) := by decide +kernel
theorem dX3_collect_28 : decode cX3_collect 28 = .ok (.aload_n 0, 1) := by decide +kernel
theorem dX3_collect_29 : decode cX3_collect 29 = .ok (.getfield 22, 3) := by decide +kernel
theorem dX3_collect_32 : decode cX3_collect 32 = .ok (.iload_n 1, 1) := by decide +kernel
theorem dX3_collect_33 : decode cX3_collect 33 = .ok (.i2c, 1) := by decide +kernel
theorem dX3_collect_34 : decode cX3_collect 34 = .ok (.castore, 1) := by decide +kernel
theorem dX3_collect_35 : decode cX3_collect 35 = .ok (.aload_n 0, 1) := by decide +kernel
theorem dX3_collect_36 : decode cX3_collect 36 = .ok (.dup, 1) := by decide +kernel
theorem dX3_collect_37 : decode cX3_collect 37 = .ok (.getfield 22, 3) := by decide +kernel
theorem dX3_collect_40 : decode cX3_collect 40 = .ok (.iconst 1, 1) := by decide +kernel
theorem dX3_collect_41 : decode cX3_collect 41 = .ok (.iadd, 1) := by decide +kernel
theorem dX3_collect_42 : decode cX3_collect 42 = .ok (.putfield 22, 3) := by decide +kernel
theorem dX3_collect_45 : decode cX3_collect 45 = .ok (.iconst 1, 1) := by decide +kernel
theorem dX3_collect_46 : decode cX3_collect 46 = .ok (.ireturn, 1) := by decide +kernel
theorem dX5_failure_0 : decode cX5_failure 0 = .ok (.iload_n 1, 1) := by decide +kernel
theorem dX5_failure_1 : decode cX5_failure 1 = .ok (.ifCond .ne 11, 3) := by decide +kernel
theorem dX5_failure_4 : decode cX5_failure 4 = .ok (.aload_n 0, 1) := by decide +kernel
theorem dX5_failure_5 : decode cX5_failure 5 = .ok (.getfield 10, 3) := by decide +kernel
theorem dX5_failure_8 : decode cX5_failure 8 = .ok (.invokevirtual 81, 3) := by decide +kernel
theorem dX5_failure_11 : decode cX5_failure 11 = .ok (.ireturn, 1) := by decide +kernel
theorem dX5_failure_12 : decode cX5_failure 12 = .ok (.iload_n 1, 1) := by decide +kernel
theorem dX5_failure_13 : decode cX5_failure 13 = .ok (.iconst 1, 1) := by decide +kernel
theorem dX5_failure_14 : decode cX5_failure 14 = .ok (.if_icmp .ne 13, 3) := by decide +kernel
theorem dX5_failure_17 : decode cX5_failure 17 = .ok (.aload_n 0, 1) := by decide +kernel
theorem dX5_failure_18 : decode cX5_failure 18 = .ok (.getfield 10, 3) := by decide +kernel
theorem dX5_failure_21 : decode cX5_failure 21 = .ok (.invokevirtual 84, 3) := by decide +kernel
theorem dX5_failure_24 : decode cX5_failure 24 = .ok (.goto 4, 3) := by decide +kernel
theorem dX5_failure_27 : decode cX5_failure 27 = .ok (.iconst (-1), 1) := by decide +kernel
theorem dX5_failure_28 : decode cX5_failure 28 = .ok (.ireturn, 1) := by decide +kernel
theorem dX3_failureNumber_0 : decode cX3_failureNumber 0 = .ok (.aload_n 0, 1) := by decide +kernel
theorem dX3_failureNumber_1 : decode cX3_failureNumber 1 = .ok (.getfield 29, 3) := by decide +kernel
theorem dX3_failureNumber_4 : decode cX3_failureNumber 4 = .ok (.ireturn, 1) := by decide +kernel
theorem dX3_failurePlace_0 : decode cX3_failurePlace 0 = .ok (.aload_n 0, 1) := by decide +kernel
theorem dX3_failurePlace_1 : decode cX3_failurePlace 1 = .ok (.getfield 32, 3) := by decide +kernel
theorem dX3_failurePlace_4 : decode cX3_failurePlace 4 = .ok (.ireturn, 1) := by decide +kernel
theorem dX5_find_0 : decode cX5_find 0 = .ok (.aload_n 0, 1) := by decide +kernel
theorem dX5_find_1 : decode cX5_find 1 = .ok (.getfield 19, 3) := by decide +kernel
theorem dX5_find_4 : decode cX5_find 4 = .ok (.iload_n 1, 1) := by decide +kernel
theorem dX5_find_5 : decode cX5_find 5 = .ok (.iload_n 2, 1) := by decide +kernel
theorem dX5_find_6 : decode cX5_find 6 = .ok (.invokevirtual 108, 3) := by decide +kernel
theorem dX5_find_9 : decode cX5_find 9 = .ok (.ireturn, 1) := by decide +kernel
theorem dX1_indexOf_0 : decode cX1_indexOf 0 = .ok (.iconst 0, 1) := by decide +kernel
theorem dX1_indexOf_1 : decode cX1_indexOf 1 = .ok (.istore_n 3, 1) := by decide +kernel
theorem dX1_indexOf_2 : decode cX1_indexOf 2 = .ok (.iload_n 3, 1) := by decide +kernel
theorem dX1_indexOf_3 : decode cX1_indexOf 3 = .ok (.aload_n 0, 1) := by decide +kernel
theorem dX1_indexOf_4 : decode cX1_indexOf 4 = .ok (.getfield 21, 3) := by decide +kernel
theorem dX1_indexOf_7 : decode cX1_indexOf 7 = .ok (.if_icmp .ge 31, 3) := by decide +kernel
theorem dX1_indexOf_10 : decode cX1_indexOf 10 = .ok (.aload_n 0, 1) := by decide +kernel
theorem dX1_indexOf_11 : decode cX1_indexOf 11 = .ok (.getfield 9, 3) := by decide +kernel
theorem dX1_indexOf_14 : decode cX1_indexOf 14 = .ok (.iload_n 3, 1) := by decide +kernel
theorem dX1_indexOf_15 : decode cX1_indexOf 15 = .ok (.iaload, 1) := by decide +kernel
theorem dX1_indexOf_16 : decode cX1_indexOf 16 = .ok (.iload_n 1, 1) := by decide +kernel
theorem dX1_indexOf_17 : decode cX1_indexOf 17 = .ok (.if_icmp .ne 15, 3) := by decide +kernel
theorem dX1_indexOf_20 : decode cX1_indexOf 20 = .ok (.aload_n 0, 1) := by decide +kernel
theorem dX1_indexOf_21 : decode cX1_indexOf 21 = .ok (.getfield 15, 3) := by decide +kernel
theorem dX1_indexOf_24 : decode cX1_indexOf 24 = .ok (.iload_n 3, 1) := by decide +kernel
theorem dX1_indexOf_25 : decode cX1_indexOf 25 = .ok (.iaload, 1) := by decide +kernel
theorem dX1_indexOf_26 : decode cX1_indexOf 26 = .ok (.iload_n 2, 1) := by decide +kernel
theorem dX1_indexOf_27 : decode cX1_indexOf 27 = .ok (.if_icmp .ne 5, 3) := by decide +kernel
theorem dX1_indexOf_30 : decode cX1_indexOf 30 = .ok (.iload_n 3, 1) := by decide +kernel
theorem dX1_indexOf_31 : decode cX1_indexOf 31 = .ok (.ireturn, 1) := by decide +kernel
theorem dX1_indexOf_32 : decode cX1_indexOf 32 = .ok (.iinc 3 1, 3) := by decide +kernel
theorem dX1_indexOf_35 : decode cX1_indexOf 35 = .ok (.goto (-33), 3) := by decide +kernel
theorem dX1_indexOf_38 : decode cX1_indexOf 38 = .ok (.iconst (-1), 1) := by decide +kernel
theorem dX1_indexOf_39 : decode cX1_indexOf 39 = .ok (.ireturn, 1) := by decide +kernel
theorem dX5_bad_0 : decode cX5_bad 0 = .ok (.aload_n 0, 1) := by decide +kernel
theorem dX5_bad_1 : decode cX5_bad 1 = .ok (.getfield 36, 3) := by decide +kernel
theorem dX5_bad_4 : decode cX5_bad 4 = .ok (.invokevirtual 128, 3) := by decide +kernel
theorem dX5_bad_7 : decode cX5_bad 7 = .ok (.ireturn, 1) := by decide +kernel
theorem dX0_size_0 : decode cX0_size 0 = .ok (.aload_n 0, 1) := by decide +kernel
theorem dX0_size_1 : decode cX0_size 1 = .ok (.getfield 15, 3) := by decide +kernel
theorem dX0_size_4 : decode cX0_size 4 = .ok (.ireturn, 1) := by decide +kernel
theorem dX5_unjoined_0 : decode cX5_unjoined 0 = .ok (.aload_n 0, 1) := by decide +kernel
theorem dX5_unjoined_1 : decode cX5_unjoined 1 = .ok (.getfield 36, 3) := by decide +kernel
theorem dX5_unjoined_4 : decode cX5_unjoined 4 = .ok (.iload_n 1, 1) := by decide +kernel
theorem dX5_unjoined_5 : decode cX5_unjoined 5 = .ok (.invokevirtual 129, 3) := by decide +kernel
theorem dX5_unjoined_8 : decode cX5_unjoined 8 = .ok (.ireturn, 1) := by decide +kernel
theorem dX0_entry_0 : decode cX0_entry 0 = .ok (.iload_n 1, 1) := by decide +kernel
theorem dX0_entry_1 : decode cX0_entry 1 = .ok (.ifCond .lt 20, 3) := by decide +kernel
theorem dX0_entry_4 : decode cX0_entry 4 = .ok (.iload_n 1, 1) := by decide +kernel
theorem dX0_entry_5 : decode cX0_entry 5 = .ok (.aload_n 0, 1) := by decide +kernel
theorem dX0_entry_6 : decode cX0_entry 6 = .ok (.getfield 15, 3) := by decide +kernel
theorem dX0_entry_9 : decode cX0_entry 9 = .ok (.if_icmp .ge 12, 3) := by decide +kernel
theorem dX0_entry_12 : decode cX0_entry 12 = .ok (.aload_n 0, 1) := by decide +kernel
theorem dX0_entry_13 : decode cX0_entry 13 = .ok (.getfield 9, 3) := by decide +kernel
theorem dX0_entry_16 : decode cX0_entry 16 = .ok (.iload_n 1, 1) := by decide +kernel
theorem dX0_entry_17 : decode cX0_entry 17 = .ok (.iaload, 1) := by decide +kernel
theorem dX0_entry_18 : decode cX0_entry 18 = .ok (.goto 4, 3) := by decide +kernel
theorem dX0_entry_21 : decode cX0_entry 21 = .ok (.iconst (-1), 1) := by decide +kernel
theorem dX0_entry_22 : decode cX0_entry 22 = .ok (.ireturn, 1) := by decide +kernel
theorem dX5_print_0 : decode cX5_print 0 = .ok (.aload_n 0, 1) := by decide +kernel
theorem dX5_print_1 : decode cX5_print 1 = .ok (.getfield 43, 3) := by decide +kernel
theorem dX5_print_4 : decode cX5_print 4 = .ok (.invokevirtual 132, 3) := by decide +kernel
theorem dX5_print_7 : decode cX5_print 7 = .ok (.ireturn, 1) := by decide +kernel
theorem dX2_length_0 : decode cX2_length 0 = .ok (.aload_n 0, 1) := by decide +kernel
theorem dX2_length_1 : decode cX2_length 1 = .ok (.getfield 15, 3) := by decide +kernel
theorem dX2_length_4 : decode cX2_length 4 = .ok (.ireturn, 1) := by decide +kernel
theorem dX5_keep_0 : decode cX5_keep 0 = .ok (.aload_n 0, 1) := by decide +kernel
theorem dX5_keep_1 : decode cX5_keep 1 = .ok (.getfield 23, 3) := by decide +kernel
theorem dX5_keep_4 : decode cX5_keep 4 = .ok (.aload_n 0, 1) := by decide +kernel
theorem dX5_keep_5 : decode cX5_keep 5 = .ok (.getfield 19, 3) := by decide +kernel
theorem dX5_keep_8 : decode cX5_keep 8 = .ok (.invokevirtual 66, 3) := by decide +kernel
theorem dX5_keep_11 : decode cX5_keep 11 = .ok (.aload_n 0, 1) := by decide +kernel
theorem dX5_keep_12 : decode cX5_keep 12 = .ok (.getfield 23, 3) := by decide +kernel
theorem dX5_keep_15 : decode cX5_keep 15 = .ok (.invokevirtual 77, 3) := by decide +kernel
theorem dX5_keep_18 : decode cX5_keep 18 = .ok (.ireturn, 1) := by decide +kernel
theorem dX1_copyFrom_0 : decode cX1_copyFrom 0 = .ok (.aload_n 0, 1) := by decide +kernel
theorem dX1_copyFrom_1 : decode cX1_copyFrom 1 = .ok (.aload_n 1, 1) := by decide +kernel
theorem dX1_copyFrom_2 : decode cX1_copyFrom 2 = .ok (.getfield 21, 3) := by decide +kernel
theorem dX1_copyFrom_5 : decode cX1_copyFrom 5 = .ok (.putfield 21, 3) := by decide +kernel
theorem dX1_copyFrom_8 : decode cX1_copyFrom 8 = .ok (.aload_n 1, 1) := by decide +kernel
theorem dX1_copyFrom_9 : decode cX1_copyFrom 9 = .ok (.getfield 9, 3) := by decide +kernel
theorem dX1_copyFrom_12 : decode cX1_copyFrom 12 = .ok (.iconst 0, 1) := by decide +kernel
theorem dX1_copyFrom_13 : decode cX1_copyFrom 13 = .ok (.aload_n 0, 1) := by decide +kernel
theorem dX1_copyFrom_14 : decode cX1_copyFrom 14 = .ok (.getfield 9, 3) := by decide +kernel
theorem dX1_copyFrom_17 : decode cX1_copyFrom 17 = .ok (.iconst 0, 1) := by decide +kernel
theorem dX1_copyFrom_18 : decode cX1_copyFrom 18 = .ok (.bipush 50, 2) := by decide +kernel
theorem dX1_copyFrom_20 : decode cX1_copyFrom 20 = .ok (.invokestatic 47, 3) := by decide +kernel
theorem dX1_copyFrom_23 : decode cX1_copyFrom 23 = .ok (.aload_n 1, 1) := by decide +kernel
theorem dX1_copyFrom_24 : decode cX1_copyFrom 24 = .ok (.getfield 15, 3) := by decide +kernel
theorem dX1_copyFrom_27 : decode cX1_copyFrom 27 = .ok (.iconst 0, 1) := by decide +kernel
theorem dX1_copyFrom_28 : decode cX1_copyFrom 28 = .ok (.aload_n 0, 1) := by decide +kernel
theorem dX1_copyFrom_29 : decode cX1_copyFrom 29 = .ok (.getfield 15, 3) := by decide +kernel
theorem dX1_copyFrom_32 : decode cX1_copyFrom 32 = .ok (.iconst 0, 1) := by decide +kernel
theorem dX1_copyFrom_33 : decode cX1_copyFrom 33 = .ok (.bipush 50, 2) := by decide +kernel
theorem dX1_copyFrom_35 : decode cX1_copyFrom 35 = .ok (.invokestatic 47, 3) := by decide +kernel
theorem dX1_copyFrom_38 : decode cX1_copyFrom 38 = .ok (.aload_n 1, 1) := by decide +kernel
theorem dX1_copyFrom_39 : decode cX1_copyFrom 39 = .ok (.getfield 18, 3) := by decide +kernel
theorem dX1_copyFrom_42 : decode cX1_copyFrom 42 = .ok (.iconst 0, 1) := by decide +kernel
theorem dX1_copyFrom_43 : decode cX1_copyFrom 43 = .ok (.aload_n 0, 1) := by decide +kernel
theorem dX1_copyFrom_44 : decode cX1_copyFrom 44 = .ok (.getfield 18, 3) := by decide +kernel
theorem dX1_copyFrom_47 : decode cX1_copyFrom 47 = .ok (.iconst 0, 1) := by decide +kernel
theorem dX1_copyFrom_48 : decode cX1_copyFrom 48 = .ok (.sipush 200, 3) := by decide +kernel
theorem dX1_copyFrom_51 : decode cX1_copyFrom 51 = .ok (.invokestatic 47, 3) := by decide +kernel
theorem dX1_copyFrom_54 : decode cX1_copyFrom 54 = .ok (.return_, 1) := by decide +kernel
theorem dX1_size_0 : decode cX1_size 0 = .ok (.aload_n 0, 1) := by decide +kernel
theorem dX1_size_1 : decode cX1_size 1 = .ok (.getfield 21, 3) := by decide +kernel
theorem dX1_size_4 : decode cX1_size 4 = .ok (.ireturn, 1) := by decide +kernel
theorem dX5_compare_0 : decode cX5_compare 0 = .ok (.aload_n 0, 1) := by decide +kernel
theorem dX5_compare_1 : decode cX5_compare 1 = .ok (.getfield 19, 3) := by decide +kernel
theorem dX5_compare_4 : decode cX5_compare 4 = .ok (.aload_n 0, 1) := by decide +kernel
theorem dX5_compare_5 : decode cX5_compare 5 = .ok (.getfield 23, 3) := by decide +kernel
theorem dX5_compare_8 : decode cX5_compare 8 = .ok (.invokevirtual 140, 3) := by decide +kernel
theorem dX5_compare_11 : decode cX5_compare 11 = .ok (.aload_n 0, 1) := by decide +kernel
theorem dX5_compare_12 : decode cX5_compare 12 = .ok (.getfield 23, 3) := by decide +kernel
theorem dX5_compare_15 : decode cX5_compare 15 = .ok (.aload_n 0, 1) := by decide +kernel
theorem dX5_compare_16 : decode cX5_compare 16 = .ok (.getfield 19, 3) := by decide +kernel
theorem dX5_compare_19 : decode cX5_compare 19 = .ok (.invokevirtual 140, 3) := by decide +kernel
theorem dX5_compare_22 : decode cX5_compare 22 = .ok (.iadd, 1) := by decide +kernel
theorem dX5_compare_23 : decode cX5_compare 23 = .ok (.aload_n 0, 1) := by decide +kernel
theorem dX5_compare_24 : decode cX5_compare 24 = .ok (.getfield 19, 3) := by decide +kernel
theorem dX5_compare_27 : decode cX5_compare 27 = .ok (.aload_n 0, 1) := by decide +kernel
theorem dX5_compare_28 : decode cX5_compare 28 = .ok (.getfield 23, 3) := by decide +kernel
theorem dX5_compare_31 : decode cX5_compare 31 = .ok (.invokevirtual 144, 3) := by decide +kernel
theorem dX5_compare_34 : decode cX5_compare 34 = .ok (.iadd, 1) := by decide +kernel
theorem dX5_compare_35 : decode cX5_compare 35 = .ok (.ireturn, 1) := by decide +kernel
theorem dX1_missingIn_0 : decode cX1_missingIn 0 = .ok (.iconst 0, 1) := by decide +kernel
theorem dX1_missingIn_1 : decode cX1_missingIn 1 = .ok (.istore_n 2, 1) := by decide +kernel
theorem dX1_missingIn_2 : decode cX1_missingIn 2 = .ok (.iconst 0, 1) := by decide +kernel
theorem dX1_missingIn_3 : decode cX1_missingIn 3 = .ok (.istore_n 3, 1) := by decide +kernel
theorem dX1_missingIn_4 : decode cX1_missingIn 4 = .ok (.iload_n 3, 1) := by decide +kernel
theorem dX1_missingIn_5 : decode cX1_missingIn 5 = .ok (.aload_n 0, 1) := by decide +kernel
theorem dX1_missingIn_6 : decode cX1_missingIn 6 = .ok (.getfield 21, 3) := by decide +kernel
theorem dX1_missingIn_9 : decode cX1_missingIn 9 = .ok (.if_icmp .ge 32, 3) := by decide +kernel
theorem dX1_missingIn_12 : decode cX1_missingIn 12 = .ok (.aload_n 1, 1) := by decide +kernel
theorem dX1_missingIn_13 : decode cX1_missingIn 13 = .ok (.aload_n 0, 1) := by decide +kernel
theorem dX1_missingIn_14 : decode cX1_missingIn 14 = .ok (.getfield 9, 3) := by decide +kernel
theorem dX1_missingIn_17 : decode cX1_missingIn 17 = .ok (.iload_n 3, 1) := by decide +kernel
theorem dX1_missingIn_18 : decode cX1_missingIn 18 = .ok (.iaload, 1) := by decide +kernel
theorem dX1_missingIn_19 : decode cX1_missingIn 19 = .ok (.aload_n 0, 1) := by decide +kernel
theorem dX1_missingIn_20 : decode cX1_missingIn 20 = .ok (.getfield 15, 3) := by decide +kernel
theorem dX1_missingIn_23 : decode cX1_missingIn 23 = .ok (.iload_n 3, 1) := by decide +kernel
theorem dX1_missingIn_24 : decode cX1_missingIn 24 = .ok (.iaload, 1) := by decide +kernel
theorem dX1_missingIn_25 : decode cX1_missingIn 25 = .ok (.invokevirtual 53, 3) := by decide +kernel
theorem dX1_missingIn_28 : decode cX1_missingIn 28 = .ok (.iconst (-1), 1) := by decide +kernel
theorem dX1_missingIn_29 : decode cX1_missingIn 29 = .ok (.if_icmp .ne 6, 3) := by decide +kernel
theorem dX1_missingIn_32 : decode cX1_missingIn 32 = .ok (.iinc 2 1, 3) := by decide +kernel
theorem dX1_missingIn_35 : decode cX1_missingIn 35 = .ok (.iinc 3 1, 3) := by decide +kernel
theorem dX1_missingIn_38 : decode cX1_missingIn 38 = .ok (.goto (-34), 3) := by decide +kernel
theorem dX1_missingIn_41 : decode cX1_missingIn 41 = .ok (.iload_n 2, 1) := by decide +kernel
theorem dX1_missingIn_42 : decode cX1_missingIn 42 = .ok (.ireturn, 1) := by decide +kernel
theorem dX1_changedIn_0 : decode cX1_changedIn 0 = .ok (.iconst 0, 1) := by decide +kernel
theorem dX1_changedIn_1 : decode cX1_changedIn 1 = .ok (.istore_n 2, 1) := by decide +kernel
theorem dX1_changedIn_2 : decode cX1_changedIn 2 = .ok (.iconst 0, 1) := by decide +kernel
theorem dX1_changedIn_3 : decode cX1_changedIn 3 = .ok (.istore_n 3, 1) := by decide +kernel
theorem dX1_changedIn_4 : decode cX1_changedIn 4 = .ok (.iload_n 3, 1) := by decide +kernel
theorem dX1_changedIn_5 : decode cX1_changedIn 5 = .ok (.aload_n 0, 1) := by decide +kernel
theorem dX1_changedIn_6 : decode cX1_changedIn 6 = .ok (.getfield 21, 3) := by decide +kernel
theorem dX1_changedIn_9 : decode cX1_changedIn 9 = .ok (.if_icmp .ge 47, 3) := by decide +kernel
theorem dX1_changedIn_12 : decode cX1_changedIn 12 = .ok (.aload_n 1, 1) := by decide +kernel
theorem dX1_changedIn_13 : decode cX1_changedIn 13 = .ok (.aload_n 0, 1) := by decide +kernel
theorem dX1_changedIn_14 : decode cX1_changedIn 14 = .ok (.getfield 9, 3) := by decide +kernel
theorem dX1_changedIn_17 : decode cX1_changedIn 17 = .ok (.iload_n 3, 1) := by decide +kernel
theorem dX1_changedIn_18 : decode cX1_changedIn 18 = .ok (.iaload, 1) := by decide +kernel
theorem dX1_changedIn_19 : decode cX1_changedIn 19 = .ok (.aload_n 0, 1) := by decide +kernel
theorem dX1_changedIn_20 : decode cX1_changedIn 20 = .ok (.getfield 15, 3) := by decide +kernel
theorem dX1_changedIn_23 : decode cX1_changedIn 23 = .ok (.iload_n 3, 1) := by decide +kernel
theorem dX1_changedIn_24 : decode cX1_changedIn 24 = .ok (.iaload, 1) := by decide +kernel
theorem dX1_changedIn_25 : decode cX1_changedIn 25 = .ok (.invokevirtual 53, 3) := by decide +kernel
theorem dX1_changedIn_28 : decode cX1_changedIn 28 = .ok (.istore 4, 2) := by decide +kernel
theorem dX1_changedIn_30 : decode cX1_changedIn 30 = .ok (.iload 4, 2) := by decide +kernel
theorem dX1_changedIn_32 : decode cX1_changedIn 32 = .ok (.iconst (-1), 1) := by decide +kernel
theorem dX1_changedIn_33 : decode cX1_changedIn 33 = .ok (.if_icmp .eq 17, 3) := by decide +kernel
theorem dX1_changedIn_36 : decode cX1_changedIn 36 = .ok (.aload_n 0, 1) := by decide +kernel
theorem dX1_changedIn_37 : decode cX1_changedIn 37 = .ok (.iload_n 3, 1) := by decide +kernel
theorem dX1_changedIn_38 : decode cX1_changedIn 38 = .ok (.aload_n 1, 1) := by decide +kernel
theorem dX1_changedIn_39 : decode cX1_changedIn 39 = .ok (.iload 4, 2) := by decide +kernel
theorem dX1_changedIn_41 : decode cX1_changedIn 41 = .ok (.invokevirtual 56, 3) := by decide +kernel
theorem dX1_changedIn_44 : decode cX1_changedIn 44 = .ok (.ifCond .ne 6, 3) := by decide +kernel
theorem dX1_changedIn_47 : decode cX1_changedIn 47 = .ok (.iinc 2 1, 3) := by decide +kernel
theorem dX1_changedIn_50 : decode cX1_changedIn 50 = .ok (.iinc 3 1, 3) := by decide +kernel
theorem dX1_changedIn_53 : decode cX1_changedIn 53 = .ok (.goto (-49), 3) := by decide +kernel
theorem dX1_changedIn_56 : decode cX1_changedIn 56 = .ok (.iload_n 2, 1) := by decide +kernel
theorem dX1_changedIn_57 : decode cX1_changedIn 57 = .ok (.ireturn, 1) := by decide +kernel
theorem dX1_hasSameNumbers_0 : decode cX1_hasSameNumbers 0 = .ok (.aload_n 0, 1) := by decide +kernel
theorem dX1_hasSameNumbers_1 : decode cX1_hasSameNumbers 1 = .ok (.iload_n 1, 1) := by decide +kernel
theorem dX1_hasSameNumbers_2 : decode cX1_hasSameNumbers 2 = .ok (.invokevirtual 33, 3) := by decide +kernel
theorem dX1_hasSameNumbers_5 : decode cX1_hasSameNumbers 5 = .ok (.invokestatic 60, 3) := by decide +kernel
theorem dX1_hasSameNumbers_8 : decode cX1_hasSameNumbers 8 = .ok (.istore 4, 2) := by decide +kernel
theorem dX1_hasSameNumbers_10 : decode cX1_hasSameNumbers 10 = .ok (.iconst 0, 1) := by decide +kernel
theorem dX1_hasSameNumbers_11 : decode cX1_hasSameNumbers 11 = .ok (.istore 5, 2) := by decide +kernel
theorem dX1_hasSameNumbers_13 : decode cX1_hasSameNumbers 13 = .ok (.iload 5, 2) := by decide +kernel
theorem dX1_hasSameNumbers_15 : decode cX1_hasSameNumbers 15 = .ok (.iload 4, 2) := by decide +kernel
theorem dX1_hasSameNumbers_17 : decode cX1_hasSameNumbers 17 = .ok (.if_icmp .ge 28, 3) := by decide +kernel
theorem dX1_hasSameNumbers_20 : decode cX1_hasSameNumbers 20 = .ok (.aload_n 0, 1) := by decide +kernel
theorem dX1_hasSameNumbers_21 : decode cX1_hasSameNumbers 21 = .ok (.iload_n 1, 1) := by decide +kernel
theorem dX1_hasSameNumbers_22 : decode cX1_hasSameNumbers 22 = .ok (.iload 5, 2) := by decide +kernel
theorem dX1_hasSameNumbers_24 : decode cX1_hasSameNumbers 24 = .ok (.invokevirtual 43, 3) := by decide +kernel
theorem dX1_hasSameNumbers_27 : decode cX1_hasSameNumbers 27 = .ok (.aload_n 2, 1) := by decide +kernel
theorem dX1_hasSameNumbers_28 : decode cX1_hasSameNumbers 28 = .ok (.iload_n 3, 1) := by decide +kernel
theorem dX1_hasSameNumbers_29 : decode cX1_hasSameNumbers 29 = .ok (.iload 5, 2) := by decide +kernel
theorem dX1_hasSameNumbers_31 : decode cX1_hasSameNumbers 31 = .ok (.invokevirtual 43, 3) := by decide +kernel
theorem dX1_hasSameNumbers_34 : decode cX1_hasSameNumbers 34 = .ok (.if_icmp .eq 5, 3) := by decide +kernel
theorem dX1_hasSameNumbers_37 : decode cX1_hasSameNumbers 37 = .ok (.iconst 0, 1) := by decide +kernel
theorem dX1_hasSameNumbers_38 : decode cX1_hasSameNumbers 38 = .ok (.ireturn, 1) := by decide +kernel
theorem dX1_hasSameNumbers_39 : decode cX1_hasSameNumbers 39 = .ok (.iinc 5 1, 3) := by decide +kernel
theorem dX1_hasSameNumbers_42 : decode cX1_hasSameNumbers 42 = .ok (.goto (-29), 3) := by decide +kernel
theorem dX1_hasSameNumbers_45 : decode cX1_hasSameNumbers 45 = .ok (.iconst 1, 1) := by decide +kernel
theorem dX1_hasSameNumbers_46 : decode cX1_hasSameNumbers 46 = .ok (.ireturn, 1) := by decide +kernel
theorem dX1_kindOf_0 : decode cX1_kindOf 0 = .ok (.iload_n 1, 1) := by decide +kernel
theorem dX1_kindOf_1 : decode cX1_kindOf 1 = .ok (.ifCond .lt 20, 3) := by decide +kernel
theorem dX1_kindOf_4 : decode cX1_kindOf 4 = .ok (.iload_n 1, 1) := by decide +kernel
theorem dX1_kindOf_5 : decode cX1_kindOf 5 = .ok (.aload_n 0, 1) := by decide +kernel
theorem dX1_kindOf_6 : decode cX1_kindOf 6 = .ok (.getfield 21, 3) := by decide +kernel
theorem dX1_kindOf_9 : decode cX1_kindOf 9 = .ok (.if_icmp .ge 12, 3) := by decide +kernel
theorem dX1_kindOf_12 : decode cX1_kindOf 12 = .ok (.aload_n 0, 1) := by decide +kernel
theorem dX1_kindOf_13 : decode cX1_kindOf 13 = .ok (.getfield 9, 3) := by decide +kernel
theorem dX1_kindOf_16 : decode cX1_kindOf 16 = .ok (.iload_n 1, 1) := by decide +kernel
theorem dX1_kindOf_17 : decode cX1_kindOf 17 = .ok (.iaload, 1) := by decide +kernel
theorem dX1_kindOf_18 : decode cX1_kindOf 18 = .ok (.goto 4, 3) := by decide +kernel
theorem dX1_kindOf_21 : decode cX1_kindOf 21 = .ok (.iconst (-1), 1) := by decide +kernel
theorem dX1_kindOf_22 : decode cX1_kindOf 22 = .ok (.ireturn, 1) := by decide +kernel
theorem dX5_numbersOfKind_0 : decode cX5_numbersOfKind 0 = .ok (.iload_n 0, 1) := by decide +kernel
theorem dX5_numbersOfKind_1 : decode cX5_numbersOfKind 1 = .ok (.invokestatic 151, 3) := by decide +kernel
theorem dX5_numbersOfKind_4 : decode cX5_numbersOfKind 4 = .ok (.ifCond .eq 11, 3) := by decide +kernel
theorem dX5_numbersOfKind_7 : decode cX5_numbersOfKind 7 = .ok (.getstatic 154, 3) := by decide +kernel
theorem dX5_numbersOfKind_10 : decode cX5_numbersOfKind 10 = .ok (.iload_n 0, 1) := by decide +kernel
theorem dX5_numbersOfKind_11 : decode cX5_numbersOfKind 11 = .ok (.iaload, 1) := by decide +kernel
theorem dX5_numbersOfKind_12 : decode cX5_numbersOfKind 12 = .ok (.goto 4, 3) := by decide +kernel
theorem dX5_numbersOfKind_15 : decode cX5_numbersOfKind 15 = .ok (.iconst 0, 1) := by decide +kernel
theorem dX5_numbersOfKind_16 : decode cX5_numbersOfKind 16 = .ok (.ireturn, 1) := by decide +kernel
theorem dX5_isKind_0 : decode cX5_isKind 0 = .ok (.iload_n 0, 1) := by decide +kernel
theorem dX5_isKind_1 : decode cX5_isKind 1 = .ok (.ifCond .lt 13, 3) := by decide +kernel
theorem dX5_isKind_4 : decode cX5_isKind 4 = .ok (.iload_n 0, 1) := by decide +kernel
theorem dX5_isKind_5 : decode cX5_isKind 5 = .ok (.bipush 6, 2) := by decide +kernel
theorem dX5_isKind_7 : decode cX5_isKind 7 = .ok (.if_icmp .ge 7, 3) := by decide +kernel
theorem dX5_isKind_10 : decode cX5_isKind 10 = .ok (.iconst 1, 1) := by decide +kernel
theorem dX5_isKind_11 : decode cX5_isKind 11 = .ok (.goto 4, 3) := by decide +kernel
theorem dX5_isKind_14 : decode cX5_isKind 14 = .ok (.iconst 0, 1) := by decide +kernel
theorem dX5_isKind_15 : decode cX5_isKind 15 = .ok (.ireturn, 1) := by decide +kernel
theorem dX1_numberOf_0 : decode cX1_numberOf 0 = .ok (.iload_n 1, 1) := by decide +kernel
theorem dX1_numberOf_1 : decode cX1_numberOf 1 = .ok (.ifCond .lt 20, 3) := by decide +kernel
theorem dX1_numberOf_4 : decode cX1_numberOf 4 = .ok (.iload_n 1, 1) := by decide +kernel
theorem dX1_numberOf_5 : decode cX1_numberOf 5 = .ok (.aload_n 0, 1) := by decide +kernel
theorem dX1_numberOf_6 : decode cX1_numberOf 6 = .ok (.getfield 21, 3) := by decide +kernel
theorem dX1_numberOf_9 : decode cX1_numberOf 9 = .ok (.if_icmp .ge 12, 3) := by decide +kernel
theorem dX1_numberOf_12 : decode cX1_numberOf 12 = .ok (.iload_n 2, 1) := by decide +kernel
theorem dX1_numberOf_13 : decode cX1_numberOf 13 = .ok (.ifCond .lt 8, 3) := by decide +kernel
theorem dX1_numberOf_16 : decode cX1_numberOf 16 = .ok (.iload_n 2, 1) := by decide +kernel
theorem dX1_numberOf_17 : decode cX1_numberOf 17 = .ok (.iconst 4, 1) := by decide +kernel
theorem dX1_numberOf_18 : decode cX1_numberOf 18 = .ok (.if_icmp .lt 5, 3) := by decide +kernel
theorem dX1_numberOf_21 : decode cX1_numberOf 21 = .ok (.iconst (-1), 1) := by decide +kernel
theorem dX1_numberOf_22 : decode cX1_numberOf 22 = .ok (.ireturn, 1) := by decide +kernel
theorem dX1_numberOf_23 : decode cX1_numberOf 23 = .ok (.aload_n 0, 1) := by decide +kernel
theorem dX1_numberOf_24 : decode cX1_numberOf 24 = .ok (.getfield 18, 3) := by decide +kernel
theorem dX1_numberOf_27 : decode cX1_numberOf 27 = .ok (.iload_n 1, 1) := by decide +kernel
theorem dX1_numberOf_28 : decode cX1_numberOf 28 = .ok (.iconst 4, 1) := by decide +kernel
theorem dX1_numberOf_29 : decode cX1_numberOf 29 = .ok (.imul, 1) := by decide +kernel
theorem dX1_numberOf_30 : decode cX1_numberOf 30 = .ok (.iload_n 2, 1) := by decide +kernel
theorem dX1_numberOf_31 : decode cX1_numberOf 31 = .ok (.iadd, 1) := by decide +kernel
theorem dX1_numberOf_32 : decode cX1_numberOf 32 = .ok (.iaload, 1) := by decide +kernel
theorem dX1_numberOf_33 : decode cX1_numberOf 33 = .ok (.ireturn, 1) := by decide +kernel
theorem dX5_count_0 : decode cX5_count 0 = .ok (.iload_n 1, 1) := by decide +kernel
theorem dX5_count_1 : decode cX5_count 1 = .ok (.tableswitch 51 0 2 #[27, 35, 43], 27) := by decide +kernel
theorem dX5_count_28 : decode cX5_count 28 = .ok (.aload_n 0, 1) := by decide +kernel
theorem dX5_count_29 : decode cX5_count 29 = .ok (.getfield 10, 3) := by decide +kernel
theorem dX5_count_32 : decode cX5_count 32 = .ok (.invokevirtual 147, 3) := by decide +kernel
theorem dX5_count_35 : decode cX5_count 35 = .ok (.ireturn, 1) := by decide +kernel
theorem dX5_count_36 : decode cX5_count 36 = .ok (.aload_n 0, 1) := by decide +kernel
theorem dX5_count_37 : decode cX5_count 37 = .ok (.getfield 19, 3) := by decide +kernel
theorem dX5_count_40 : decode cX5_count 40 = .ok (.invokevirtual 77, 3) := by decide +kernel
theorem dX5_count_43 : decode cX5_count 43 = .ok (.ireturn, 1) := by decide +kernel
theorem dX5_count_44 : decode cX5_count 44 = .ok (.aload_n 0, 1) := by decide +kernel
theorem dX5_count_45 : decode cX5_count 45 = .ok (.getfield 23, 3) := by decide +kernel
theorem dX5_count_48 : decode cX5_count 48 = .ok (.invokevirtual 77, 3) := by decide +kernel
theorem dX5_count_51 : decode cX5_count 51 = .ok (.ireturn, 1) := by decide +kernel
theorem dX5_count_52 : decode cX5_count 52 = .ok (.iload_n 1, 1) := by decide +kernel
theorem dX5_count_53 : decode cX5_count 53 = .ok (.bipush 10, 2) := by decide +kernel
theorem dX5_count_55 : decode cX5_count 55 = .ok (.if_icmp .ge 7, 3) := by decide +kernel
theorem dX5_count_58 : decode cX5_count 58 = .ok (.iconst (-1), 1) := by decide +kernel
theorem dX5_count_59 : decode cX5_count 59 = .ok (.goto 14, 3) := by decide +kernel
theorem dX5_count_62 : decode cX5_count 62 = .ok (.aload_n 0, 1) := by decide +kernel
theorem dX5_count_63 : decode cX5_count 63 = .ok (.getfield 19, 3) := by decide +kernel
theorem dX5_count_66 : decode cX5_count 66 = .ok (.iload_n 1, 1) := by decide +kernel
theorem dX5_count_67 : decode cX5_count 67 = .ok (.bipush 10, 2) := by decide +kernel
theorem dX5_count_69 : decode cX5_count 69 = .ok (.isub, 1) := by decide +kernel
theorem dX5_count_70 : decode cX5_count 70 = .ok (.invokevirtual 148, 3) := by decide +kernel
theorem dX5_count_73 : decode cX5_count 73 = .ok (.ireturn, 1) := by decide +kernel
theorem dX3_length_0 : decode cX3_length 0 = .ok (.aload_n 0, 1) := by decide +kernel
theorem dX3_length_1 : decode cX3_length 1 = .ok (.getfield 22, 3) := by decide +kernel
theorem dX3_length_4 : decode cX3_length 4 = .ok (.ireturn, 1) := by decide +kernel
theorem dX1_sizeOfKind_0 : decode cX1_sizeOfKind 0 = .ok (.iload_n 1, 1) := by decide +kernel
theorem dX1_sizeOfKind_1 : decode cX1_sizeOfKind 1 = .ok (.invokestatic 29, 3) := by decide +kernel
theorem dX1_sizeOfKind_4 : decode cX1_sizeOfKind 4 = .ok (.ifCond .ne 5, 3) := by decide +kernel
theorem dX1_sizeOfKind_7 : decode cX1_sizeOfKind 7 = .ok (.iconst (-1), 1) := by decide +kernel
theorem dX1_sizeOfKind_8 : decode cX1_sizeOfKind 8 = .ok (.ireturn, 1) := by decide +kernel
theorem dX1_sizeOfKind_9 : decode cX1_sizeOfKind 9 = .ok (.iconst 0, 1) := by decide +kernel
theorem dX1_sizeOfKind_10 : decode cX1_sizeOfKind 10 = .ok (.istore_n 2, 1) := by decide +kernel
theorem dX1_sizeOfKind_11 : decode cX1_sizeOfKind 11 = .ok (.iconst 0, 1) := by decide +kernel
theorem dX1_sizeOfKind_12 : decode cX1_sizeOfKind 12 = .ok (.istore_n 3, 1) := by decide +kernel
theorem dX1_sizeOfKind_13 : decode cX1_sizeOfKind 13 = .ok (.iload_n 3, 1) := by decide +kernel
theorem dX1_sizeOfKind_14 : decode cX1_sizeOfKind 14 = .ok (.aload_n 0, 1) := by decide +kernel
theorem dX1_sizeOfKind_15 : decode cX1_sizeOfKind 15 = .ok (.getfield 21, 3) := by decide +kernel
theorem dX1_sizeOfKind_18 : decode cX1_sizeOfKind 18 = .ok (.if_icmp .ge 22, 3) := by decide +kernel
theorem dX1_sizeOfKind_21 : decode cX1_sizeOfKind 21 = .ok (.aload_n 0, 1) := by decide +kernel
theorem dX1_sizeOfKind_22 : decode cX1_sizeOfKind 22 = .ok (.getfield 9, 3) := by decide +kernel
theorem dX1_sizeOfKind_25 : decode cX1_sizeOfKind 25 = .ok (.iload_n 3, 1) := by decide +kernel
theorem dX1_sizeOfKind_26 : decode cX1_sizeOfKind 26 = .ok (.iaload, 1) := by decide +kernel
theorem dX1_sizeOfKind_27 : decode cX1_sizeOfKind 27 = .ok (.iload_n 1, 1) := by decide +kernel
theorem dX1_sizeOfKind_28 : decode cX1_sizeOfKind 28 = .ok (.if_icmp .ne 6, 3) := by decide +kernel
theorem dX1_sizeOfKind_31 : decode cX1_sizeOfKind 31 = .ok (.iinc 2 1, 3) := by decide +kernel
theorem dX1_sizeOfKind_34 : decode cX1_sizeOfKind 34 = .ok (.iinc 3 1, 3) := by decide +kernel
theorem dX1_sizeOfKind_37 : decode cX1_sizeOfKind 37 = .ok (.goto (-24), 3) := by decide +kernel
theorem dX1_sizeOfKind_40 : decode cX1_sizeOfKind 40 = .ok (.iload_n 2, 1) := by decide +kernel
theorem dX1_sizeOfKind_41 : decode cX1_sizeOfKind 41 = .ok (.ireturn, 1) := by decide +kernel
theorem dL_read_0 : decode cL_read 0 = .ok (.aload_n 1, 1) := by decide +kernel
theorem dL_read_1 : decode cL_read 1 = .ok (.iconst 0, 1) := by decide +kernel
theorem dL_read_2 : decode cL_read 2 = .ok (.aload_n 0, 1) := by decide +kernel
theorem dL_read_3 : decode cL_read 3 = .ok (.invokevirtual 7, 3) := by decide +kernel
theorem dL_read_6 : decode cL_read 6 = .ok (.i2l, 1) := by decide +kernel
theorem dL_read_7 : decode cL_read 7 = .ok (.lastore, 1) := by decide +kernel
theorem dL_read_8 : decode cL_read 8 = .ok (.goto 6, 3) := by decide +kernel
theorem dL_read_11 : decode cL_read 11 = .ok (.astore_n 2, 1) := by decide +kernel
theorem dL_read_12 : decode cL_read 12 = .ok (.iconst 1, 1) := by decide +kernel
theorem dL_read_13 : decode cL_read 13 = .ok (.ireturn, 1) := by decide +kernel
theorem dL_read_14 : decode cL_read 14 = .ok (.iconst 0, 1) := by decide +kernel
theorem dL_read_15 : decode cL_read 15 = .ok (.ireturn, 1) := by decide +kernel
theorem dX5_read_0 : decode cX5_read 0 = .ok (.aload_n 0, 1) := by decide +kernel
theorem dX5_read_1 : decode cX5_read 1 = .ok (.getfield 10, 3) := by decide +kernel
theorem dX5_read_4 : decode cX5_read 4 = .ok (.invokevirtual 51, 3) := by decide +kernel
theorem dX5_read_7 : decode cX5_read 7 = .ok (.ifCond .ne 13, 3) := by decide +kernel
theorem dX5_read_10 : decode cX5_read 10 = .ok (.new 55, 3) := by decide +kernel
theorem dX5_read_13 : decode cX5_read 13 = .ok (.dup, 1) := by decide +kernel
theorem dX5_read_14 : decode cX5_read 14 = .ok (.ldc 57, 2) := by decide +kernel
theorem dX5_read_16 : decode cX5_read 16 = .ok (.invokespecial 59, 3) := by decide +kernel
theorem dX5_read_19 : decode cX5_read 19 = .ok (.athrow, 1) := by decide +kernel
theorem dX5_read_20 : decode cX5_read 20 = .ok (.aload_n 0, 1) := by decide +kernel
theorem dX5_read_21 : decode cX5_read 21 = .ok (.getfield 19, 3) := by decide +kernel
theorem dX5_read_24 : decode cX5_read 24 = .ok (.aload_n 0, 1) := by decide +kernel
theorem dX5_read_25 : decode cX5_read 25 = .ok (.getfield 10, 3) := by decide +kernel
theorem dX5_read_28 : decode cX5_read 28 = .ok (.invokevirtual 62, 3) := by decide +kernel
theorem dX5_read_31 : decode cX5_read 31 = .ok (.invokevirtual 66, 3) := by decide +kernel
theorem dX5_read_34 : decode cX5_read 34 = .ok (.aload_n 0, 1) := by decide +kernel
theorem dX5_read_35 : decode cX5_read 35 = .ok (.getfield 36, 3) := by decide +kernel
theorem dX5_read_38 : decode cX5_read 38 = .ok (.aload_n 0, 1) := by decide +kernel
theorem dX5_read_39 : decode cX5_read 39 = .ok (.getfield 19, 3) := by decide +kernel
theorem dX5_read_42 : decode cX5_read 42 = .ok (.aload_n 0, 1) := by decide +kernel
theorem dX5_read_43 : decode cX5_read 43 = .ok (.getfield 29, 3) := by decide +kernel
theorem dX5_read_46 : decode cX5_read 46 = .ok (.invokevirtual 70, 3) := by decide +kernel
theorem dX5_read_49 : decode cX5_read 49 = .ok (.aload_n 0, 1) := by decide +kernel
theorem dX5_read_50 : decode cX5_read 50 = .ok (.getfield 43, 3) := by decide +kernel
theorem dX5_read_53 : decode cX5_read 53 = .ok (.aload_n 0, 1) := by decide +kernel
theorem dX5_read_54 : decode cX5_read 54 = .ok (.getfield 19, 3) := by decide +kernel
theorem dX5_read_57 : decode cX5_read 57 = .ok (.invokevirtual 74, 3) := by decide +kernel
theorem dX5_read_60 : decode cX5_read 60 = .ok (.aload_n 0, 1) := by decide +kernel
theorem dX5_read_61 : decode cX5_read 61 = .ok (.getfield 19, 3) := by decide +kernel
theorem dX5_read_64 : decode cX5_read 64 = .ok (.invokevirtual 77, 3) := by decide +kernel
theorem dX5_read_67 : decode cX5_read 67 = .ok (.ireturn, 1) := by decide +kernel
theorem dX3_readAll_0 : decode cX3_readAll 0 = .ok (.aload_n 0, 1) := by decide +kernel
theorem dX3_readAll_1 : decode cX3_readAll 1 = .ok (.getfield 18, 3) := by decide +kernel
theorem dX3_readAll_4 : decode cX3_readAll 4 = .ok (.invokevirtual 35, 3) := by decide +kernel
theorem dX3_readAll_7 : decode cX3_readAll 7 = .ok (.aload_n 0, 1) := by decide +kernel
theorem dX3_readAll_8 : decode cX3_readAll 8 = .ok (.iconst 0, 1) := by decide +kernel
theorem dX3_readAll_9 : decode cX3_readAll 9 = .ok (.putfield 26, 3) := by decide +kernel
theorem dX3_readAll_12 : decode cX3_readAll 12 = .ok (.aload_n 0, 1) := by decide +kernel
theorem dX3_readAll_13 : decode cX3_readAll 13 = .ok (.iconst 0, 1) := by decide +kernel
theorem dX3_readAll_14 : decode cX3_readAll 14 = .ok (.putfield 29, 3) := by decide +kernel
theorem dX3_readAll_17 : decode cX3_readAll 17 = .ok (.aload_n 0, 1) := by decide +kernel
theorem dX3_readAll_18 : decode cX3_readAll 18 = .ok (.iconst (-1), 1) := by decide +kernel
theorem dX3_readAll_19 : decode cX3_readAll 19 = .ok (.putfield 32, 3) := by decide +kernel
theorem dX3_readAll_22 : decode cX3_readAll 22 = .ok (.iconst 1, 1) := by decide +kernel
theorem dX3_readAll_23 : decode cX3_readAll 23 = .ok (.istore_n 1, 1) := by decide +kernel
theorem dX3_readAll_24 : decode cX3_readAll 24 = .ok (.iconst 0, 1) := by decide +kernel
theorem dX3_readAll_25 : decode cX3_readAll 25 = .ok (.istore_n 2, 1) := by decide +kernel
theorem dX3_readAll_26 : decode cX3_readAll 26 = .ok (.iload_n 2, 1) := by decide +kernel
theorem dX3_readAll_27 : decode cX3_readAll 27 = .ok (.bipush 50, 2) := by decide +kernel
theorem dX3_readAll_29 : decode cX3_readAll 29 = .ok (.if_icmp .gt 29, 3) := by decide +kernel
theorem dX3_readAll_32 : decode cX3_readAll 32 = .ok (.iload_n 1, 1) := by decide +kernel
theorem dX3_readAll_33 : decode cX3_readAll 33 = .ok (.ifCond .eq 25, 3) := by decide +kernel
theorem dX3_readAll_36 : decode cX3_readAll 36 = .ok (.aload_n 0, 1) := by decide +kernel
theorem dX3_readAll_37 : decode cX3_readAll 37 = .ok (.getfield 26, 3) := by decide +kernel
theorem dX3_readAll_40 : decode cX3_readAll 40 = .ok (.aload_n 0, 1) := by decide +kernel
theorem dX3_readAll_41 : decode cX3_readAll 41 = .ok (.getfield 22, 3) := by decide +kernel
theorem dX3_readAll_44 : decode cX3_readAll 44 = .ok (.if_icmp .ge 14, 3) := by decide +kernel
theorem dX3_readAll_47 : decode cX3_readAll 47 = .ok (.aload_n 0, 1) := by decide +kernel
theorem dX3_readAll_48 : decode cX3_readAll 48 = .ok (.invokevirtual 38, 3) := by decide +kernel
theorem dX3_readAll_51 : decode cX3_readAll 51 = .ok (.istore_n 1, 1) := by decide +kernel
theorem dX3_readAll_52 : decode cX3_readAll 52 = .ok (.iinc 2 1, 3) := by decide +kernel
theorem dX3_readAll_55 : decode cX3_readAll 55 = .ok (.goto (-29), 3) := by decide +kernel
theorem dX3_readAll_58 : decode cX3_readAll 58 = .ok (.aload_n 0, 1) := by decide +kernel
theorem dX3_readAll_59 : decode cX3_readAll 59 = .ok (.iconst 0, 1) := by decide +kernel
theorem dX3_readAll_60 : decode cX3_readAll 60 = .ok (.putfield 22, 3) := by decide +kernel
theorem dX3_readAll_63 : decode cX3_readAll 63 = .ok (.iload_n 1, 1) := by decide +kernel
theorem dX3_readAll_64 : decode cX3_readAll 64 = .ok (.ireturn, 1) := by decide +kernel
theorem dX1_clear_0 : decode cX1_clear 0 = .ok (.aload_n 0, 1) := by decide +kernel
theorem dX1_clear_1 : decode cX1_clear 1 = .ok (.iconst 0, 1) := by decide +kernel
theorem dX1_clear_2 : decode cX1_clear 2 = .ok (.putfield 21, 3) := by decide +kernel
theorem dX1_clear_5 : decode cX1_clear 5 = .ok (.return_, 1) := by decide +kernel
theorem dX3_readRow_0 : decode cX3_readRow 0 = .ok (.aload_n 0, 1) := by decide +kernel
theorem dX3_readRow_1 : decode cX3_readRow 1 = .ok (.invokevirtual 42, 3) := by decide +kernel
theorem dX3_readRow_4 : decode cX3_readRow 4 = .ok (.istore_n 1, 1) := by decide +kernel
theorem dX3_readRow_5 : decode cX3_readRow 5 = .ok (.iload_n 1, 1) := by decide +kernel
theorem dX3_readRow_6 : decode cX3_readRow 6 = .ok (.iconst (-1), 1) := by decide +kernel
theorem dX3_readRow_7 : decode cX3_readRow 7 = .ok (.if_icmp .ne 13, 3) := by decide +kernel
theorem dX3_readRow_10 : decode cX3_readRow 10 = .ok (.aload_n 0, 1) := by decide +kernel
theorem dX3_readRow_11 : decode cX3_readRow 11 = .ok (.iconst 1, 1) := by decide +kernel
theorem dX3_readRow_12 : decode cX3_readRow 12 = .ok (.aload_n 0, 1) := by decide +kernel
theorem dX3_readRow_13 : decode cX3_readRow 13 = .ok (.getfield 26, 3) := by decide +kernel
theorem dX3_readRow_16 : decode cX3_readRow 16 = .ok (.invokevirtual 46, 3) := by decide +kernel
theorem dX3_readRow_19 : decode cX3_readRow 19 = .ok (.ireturn, 1) := by decide +kernel
theorem dX3_readRow_20 : decode cX3_readRow 20 = .ok (.aload_n 0, 1) := by decide +kernel
theorem dX3_readRow_21 : decode cX3_readRow 21 = .ok (.getfield 18, 3) := by decide +kernel
theorem dX3_readRow_24 : decode cX3_readRow 24 = .ok (.invokevirtual 50, 3) := by decide +kernel
theorem dX3_readRow_27 : decode cX3_readRow 27 = .ok (.ifCond .eq 13, 3) := by decide +kernel
theorem dX3_readRow_30 : decode cX3_readRow 30 = .ok (.aload_n 0, 1) := by decide +kernel
theorem dX3_readRow_31 : decode cX3_readRow 31 = .ok (.iconst 5, 1) := by decide +kernel
theorem dX3_readRow_32 : decode cX3_readRow 32 = .ok (.aload_n 0, 1) := by decide +kernel
theorem dX3_readRow_33 : decode cX3_readRow 33 = .ok (.getfield 26, 3) := by decide +kernel
theorem dX3_readRow_36 : decode cX3_readRow 36 = .ok (.invokevirtual 46, 3) := by decide +kernel
theorem dX3_readRow_39 : decode cX3_readRow 39 = .ok (.ireturn, 1) := by decide +kernel
theorem dX3_readRow_40 : decode cX3_readRow 40 = .ok (.aload_n 0, 1) := by decide +kernel
theorem dX3_readRow_41 : decode cX3_readRow 41 = .ok (.dup, 1) := by decide +kernel
theorem dX3_readRow_42 : decode cX3_readRow 42 = .ok (.getfield 26, 3) := by decide +kernel
theorem dX3_readRow_45 : decode cX3_readRow 45 = .ok (.iconst 1, 1) := by decide +kernel
theorem dX3_readRow_46 : decode cX3_readRow 46 = .ok (.iadd, 1) := by decide +kernel
theorem dX3_readRow_47 : decode cX3_readRow 47 = .ok (.putfield 26, 3) := by decide +kernel
theorem dX3_readRow_50 : decode cX3_readRow 50 = .ok (.aload_n 0, 1) := by decide +kernel
theorem dX3_readRow_51 : decode cX3_readRow 51 = .ok (.iload_n 1, 1) := by decide +kernel
theorem dX3_readRow_52 : decode cX3_readRow 52 = .ok (.invokevirtual 53, 3) := by decide +kernel
theorem dX3_readRow_55 : decode cX3_readRow 55 = .ok (.ifCond .eq 12, 3) := by decide +kernel
theorem dX3_readRow_58 : decode cX3_readRow 58 = .ok (.aload_n 0, 1) := by decide +kernel
theorem dX3_readRow_59 : decode cX3_readRow 59 = .ok (.bipush 61, 2) := by decide +kernel
theorem dX3_readRow_61 : decode cX3_readRow 61 = .ok (.invokevirtual 57, 3) := by decide +kernel
theorem dX3_readRow_64 : decode cX3_readRow 64 = .ok (.ifCond .ne 5, 3) := by decide +kernel
theorem dX3_readRow_67 : decode cX3_readRow 67 = .ok (.iconst 0, 1) := by decide +kernel
theorem dX3_readRow_68 : decode cX3_readRow 68 = .ok (.ireturn, 1) := by decide +kernel
theorem dX3_readRow_69 : decode cX3_readRow 69 = .ok (.iload_n 1, 1) := by decide +kernel
theorem dX3_readRow_70 : decode cX3_readRow 70 = .ok (.invokestatic 61, 3) := by decide +kernel
theorem dX3_readRow_73 : decode cX3_readRow 73 = .ok (.istore_n 2, 1) := by decide +kernel
theorem dX3_readRow_74 : decode cX3_readRow 74 = .ok (.iconst 0, 1) := by decide +kernel
theorem dX3_readRow_75 : decode cX3_readRow 75 = .ok (.istore_n 3, 1) := by decide +kernel
theorem dX3_readRow_76 : decode cX3_readRow 76 = .ok (.iload_n 3, 1) := by decide +kernel
theorem dX3_readRow_77 : decode cX3_readRow 77 = .ok (.iload_n 2, 1) := by decide +kernel
theorem dX3_readRow_78 : decode cX3_readRow 78 = .ok (.if_icmp .ge 41, 3) := by decide +kernel
theorem dX3_readRow_81 : decode cX3_readRow 81 = .ok (.aload_n 0, 1) := by decide +kernel
theorem dX3_readRow_82 : decode cX3_readRow 82 = .ok (.iload_n 1, 1) := by decide +kernel
theorem dX3_readRow_83 : decode cX3_readRow 83 = .ok (.iload_n 3, 1) := by decide +kernel
theorem dX3_readRow_84 : decode cX3_readRow 84 = .ok (.invokevirtual 65, 3) := by decide +kernel
theorem dX3_readRow_87 : decode cX3_readRow 87 = .ok (.ifCond .eq 24, 3) := by decide +kernel
theorem dX3_readRow_90 : decode cX3_readRow 90 = .ok (.aload_n 0, 1) := by decide +kernel
