theorem dX1_hasPieceAt_17 : decode cX1_hasPieceAt 17 = .ok (.if_icmp .ne 25, 3) := by decide +kernel
theorem dX1_hasPieceAt_20 : decode cX1_hasPieceAt 20 = .ok (.aload_n 0, 1) := by decide +kernel
theorem dX1_hasPieceAt_21 : decode cX1_hasPieceAt 21 = .ok (.iload_n 3, 1) := by decide +kernel
theorem dX1_hasPieceAt_22 : decode cX1_hasPieceAt 22 = .ok (.iconst 0, 1) := by decide +kernel
theorem dX1_hasPieceAt_23 : decode cX1_hasPieceAt 23 = .ok (.invokevirtual 43, 3) := by decide +kernel
theorem dX1_hasPieceAt_26 : decode cX1_hasPieceAt 26 = .ok (.iload_n 2, 1) := by decide +kernel
theorem dX1_hasPieceAt_27 : decode cX1_hasPieceAt 27 = .ok (.if_icmp .eq 13, 3) := by decide +kernel
theorem dX1_hasPieceAt_30 : decode cX1_hasPieceAt 30 = .ok (.aload_n 0, 1) := by decide +kernel
theorem dX1_hasPieceAt_31 : decode cX1_hasPieceAt 31 = .ok (.iload_n 3, 1) := by decide +kernel
theorem dX1_hasPieceAt_32 : decode cX1_hasPieceAt 32 = .ok (.iconst 1, 1) := by decide +kernel
theorem dX1_hasPieceAt_33 : decode cX1_hasPieceAt 33 = .ok (.invokevirtual 43, 3) := by decide +kernel
theorem dX1_hasPieceAt_36 : decode cX1_hasPieceAt 36 = .ok (.iload_n 2, 1) := by decide +kernel
theorem dX1_hasPieceAt_37 : decode cX1_hasPieceAt 37 = .ok (.if_icmp .ne 5, 3) := by decide +kernel
theorem dX1_hasPieceAt_40 : decode cX1_hasPieceAt 40 = .ok (.iconst 1, 1) := by decide +kernel
theorem dX1_hasPieceAt_41 : decode cX1_hasPieceAt 41 = .ok (.ireturn, 1) := by decide +kernel
theorem dX1_hasPieceAt_42 : decode cX1_hasPieceAt 42 = .ok (.iinc 3 1, 3) := by decide +kernel
theorem dX1_hasPieceAt_45 : decode cX1_hasPieceAt 45 = .ok (.goto (-43), 3) := by decide +kernel
theorem dX1_hasPieceAt_48 : decode cX1_hasPieceAt 48 = .ok (.iconst 0, 1) := by decide +kernel
theorem dX1_hasPieceAt_49 : decode cX1_hasPieceAt 49 = .ok (.ireturn, 1) := by decide +kernel
theorem dX4_depthAt_0 : decode cX4_depthAt 0 = .ok (.iload_n 1, 1) := by decide +kernel
theorem dX4_depthAt_1 : decode cX4_depthAt 1 = .ok (.invokestatic 15, 3) := by decide +kernel
theorem dX4_depthAt_4 : decode cX4_depthAt 4 = .ok (.ifCond .eq 12, 3) := by decide +kernel
theorem dX4_depthAt_7 : decode cX4_depthAt 7 = .ok (.aload_n 0, 1) := by decide +kernel
theorem dX4_depthAt_8 : decode cX4_depthAt 8 = .ok (.getfield 9, 3) := by decide +kernel
theorem dX4_depthAt_11 : decode cX4_depthAt 11 = .ok (.iload_n 1, 1) := by decide +kernel
theorem dX4_depthAt_12 : decode cX4_depthAt 12 = .ok (.iaload, 1) := by decide +kernel
theorem dX4_depthAt_13 : decode cX4_depthAt 13 = .ok (.goto 4, 3) := by decide +kernel
theorem dX4_depthAt_16 : decode cX4_depthAt 16 = .ok (.iconst 0, 1) := by decide +kernel
theorem dX4_depthAt_17 : decode cX4_depthAt 17 = .ok (.ireturn, 1) := by decide +kernel
theorem dX2_write_0 : decode cX2_write 0 = .ok (.aload_n 0, 1) := by decide +kernel
theorem dX2_write_1 : decode cX2_write 1 = .ok (.iconst 0, 1) := by decide +kernel
theorem dX2_write_2 : decode cX2_write 2 = .ok (.putfield 15, 3) := by decide +kernel
theorem dX2_write_5 : decode cX2_write 5 = .ok (.iconst (-1), 1) := by decide +kernel
theorem dX2_write_6 : decode cX2_write 6 = .ok (.istore_n 2, 1) := by decide +kernel
theorem dX2_write_7 : decode cX2_write 7 = .ok (.aload_n 1, 1) := by decide +kernel
theorem dX2_write_8 : decode cX2_write 8 = .ok (.invokevirtual 19, 3) := by decide +kernel
theorem dX2_write_11 : decode cX2_write 11 = .ok (.istore_n 3, 1) := by decide +kernel
theorem dX2_write_12 : decode cX2_write 12 = .ok (.iconst 0, 1) := by decide +kernel
theorem dX2_write_13 : decode cX2_write 13 = .ok (.istore 4, 2) := by decide +kernel
theorem dX2_write_15 : decode cX2_write 15 = .ok (.iload 4, 2) := by decide +kernel
theorem dX2_write_17 : decode cX2_write 17 = .ok (.iload_n 3, 1) := by decide +kernel
theorem dX2_write_18 : decode cX2_write 18 = .ok (.if_icmp .ge 30, 3) := by decide +kernel
theorem dX2_write_21 : decode cX2_write 21 = .ok (.aload_n 1, 1) := by decide +kernel
theorem dX2_write_22 : decode cX2_write 22 = .ok (.iload_n 2, 1) := by decide +kernel
theorem dX2_write_23 : decode cX2_write 23 = .ok (.invokevirtual 25, 3) := by decide +kernel
theorem dX2_write_26 : decode cX2_write 26 = .ok (.istore 5, 2) := by decide +kernel
theorem dX2_write_28 : decode cX2_write 28 = .ok (.aload_n 0, 1) := by decide +kernel
theorem dX2_write_29 : decode cX2_write 29 = .ok (.aload_n 1, 1) := by decide +kernel
theorem dX2_write_30 : decode cX2_write 30 = .ok (.iload 5, 2) := by decide +kernel
theorem dX2_write_32 : decode cX2_write 32 = .ok (.invokevirtual 29, 3) := by decide +kernel
theorem dX2_write_35 : decode cX2_write 35 = .ok (.aload_n 1, 1) := by decide +kernel
theorem dX2_write_36 : decode cX2_write 36 = .ok (.iload 5, 2) := by decide +kernel
theorem dX2_write_38 : decode cX2_write 38 = .ok (.invokevirtual 33, 3) := by decide +kernel
theorem dX2_write_41 : decode cX2_write 41 = .ok (.istore_n 2, 1) := by decide +kernel
theorem dX2_write_42 : decode cX2_write 42 = .ok (.iinc 4 1, 3) := by decide +kernel
theorem dX2_write_45 : decode cX2_write 45 = .ok (.goto (-30), 3) := by decide +kernel
theorem dX2_write_48 : decode cX2_write 48 = .ok (.return_, 1) := by decide +kernel
theorem dX1_nextBehind_0 : decode cX1_nextBehind 0 = .ok (.iconst (-1), 1) := by decide +kernel
theorem dX1_nextBehind_1 : decode cX1_nextBehind 1 = .ok (.istore_n 2, 1) := by decide +kernel
theorem dX1_nextBehind_2 : decode cX1_nextBehind 2 = .ok (.iconst 0, 1) := by decide +kernel
theorem dX1_nextBehind_3 : decode cX1_nextBehind 3 = .ok (.istore_n 3, 1) := by decide +kernel
theorem dX1_nextBehind_4 : decode cX1_nextBehind 4 = .ok (.iload_n 3, 1) := by decide +kernel
theorem dX1_nextBehind_5 : decode cX1_nextBehind 5 = .ok (.aload_n 0, 1) := by decide +kernel
theorem dX1_nextBehind_6 : decode cX1_nextBehind 6 = .ok (.getfield 21, 3) := by decide +kernel
theorem dX1_nextBehind_9 : decode cX1_nextBehind 9 = .ok (.if_icmp .ge 38, 3) := by decide +kernel
theorem dX1_nextBehind_12 : decode cX1_nextBehind 12 = .ok (.aload_n 0, 1) := by decide +kernel
theorem dX1_nextBehind_13 : decode cX1_nextBehind 13 = .ok (.iload_n 3, 1) := by decide +kernel
theorem dX1_nextBehind_14 : decode cX1_nextBehind 14 = .ok (.invokevirtual 40, 3) := by decide +kernel
theorem dX1_nextBehind_17 : decode cX1_nextBehind 17 = .ok (.iload_n 1, 1) := by decide +kernel
theorem dX1_nextBehind_18 : decode cX1_nextBehind 18 = .ok (.if_icmp .le 23, 3) := by decide +kernel
theorem dX1_nextBehind_21 : decode cX1_nextBehind 21 = .ok (.iload_n 2, 1) := by decide +kernel
theorem dX1_nextBehind_22 : decode cX1_nextBehind 22 = .ok (.iconst (-1), 1) := by decide +kernel
theorem dX1_nextBehind_23 : decode cX1_nextBehind 23 = .ok (.if_icmp .eq 16, 3) := by decide +kernel
theorem dX1_nextBehind_26 : decode cX1_nextBehind 26 = .ok (.aload_n 0, 1) := by decide +kernel
theorem dX1_nextBehind_27 : decode cX1_nextBehind 27 = .ok (.iload_n 3, 1) := by decide +kernel
theorem dX1_nextBehind_28 : decode cX1_nextBehind 28 = .ok (.invokevirtual 40, 3) := by decide +kernel
theorem dX1_nextBehind_31 : decode cX1_nextBehind 31 = .ok (.aload_n 0, 1) := by decide +kernel
theorem dX1_nextBehind_32 : decode cX1_nextBehind 32 = .ok (.iload_n 2, 1) := by decide +kernel
theorem dX1_nextBehind_33 : decode cX1_nextBehind 33 = .ok (.invokevirtual 40, 3) := by decide +kernel
theorem dX1_nextBehind_36 : decode cX1_nextBehind 36 = .ok (.if_icmp .ge 5, 3) := by decide +kernel
theorem dX1_nextBehind_39 : decode cX1_nextBehind 39 = .ok (.iload_n 3, 1) := by decide +kernel
theorem dX1_nextBehind_40 : decode cX1_nextBehind 40 = .ok (.istore_n 2, 1) := by decide +kernel
theorem dX1_nextBehind_41 : decode cX1_nextBehind 41 = .ok (.iinc 3 1, 3) := by decide +kernel
theorem dX1_nextBehind_44 : decode cX1_nextBehind 44 = .ok (.goto (-40), 3) := by decide +kernel
theorem dX1_nextBehind_47 : decode cX1_nextBehind 47 = .ok (.iload_n 2, 1) := by decide +kernel
theorem dX1_nextBehind_48 : decode cX1_nextBehind 48 = .ok (.ireturn, 1) := by decide +kernel
theorem dX1_rankOf_0 : decode cX1_rankOf 0 = .ok (.aload_n 0, 1) := by decide +kernel
theorem dX1_rankOf_1 : decode cX1_rankOf 1 = .ok (.iload_n 1, 1) := by decide +kernel
theorem dX1_rankOf_2 : decode cX1_rankOf 2 = .ok (.invokevirtual 33, 3) := by decide +kernel
theorem dX1_rankOf_5 : decode cX1_rankOf 5 = .ok (.bipush 100, 2) := by decide +kernel
theorem dX1_rankOf_7 : decode cX1_rankOf 7 = .ok (.imul, 1) := by decide +kernel
theorem dX1_rankOf_8 : decode cX1_rankOf 8 = .ok (.aload_n 0, 1) := by decide +kernel
theorem dX1_rankOf_9 : decode cX1_rankOf 9 = .ok (.iload_n 1, 1) := by decide +kernel
theorem dX1_rankOf_10 : decode cX1_rankOf 10 = .ok (.invokevirtual 37, 3) := by decide +kernel
theorem dX1_rankOf_13 : decode cX1_rankOf 13 = .ok (.iadd, 1) := by decide +kernel
theorem dX1_rankOf_14 : decode cX1_rankOf 14 = .ok (.ireturn, 1) := by decide +kernel
theorem dX1_nameOf_0 : decode cX1_nameOf 0 = .ok (.iload_n 1, 1) := by decide +kernel
theorem dX1_nameOf_1 : decode cX1_nameOf 1 = .ok (.ifCond .lt 20, 3) := by decide +kernel
theorem dX1_nameOf_4 : decode cX1_nameOf 4 = .ok (.iload_n 1, 1) := by decide +kernel
theorem dX1_nameOf_5 : decode cX1_nameOf 5 = .ok (.aload_n 0, 1) := by decide +kernel
theorem dX1_nameOf_6 : decode cX1_nameOf 6 = .ok (.getfield 21, 3) := by decide +kernel
theorem dX1_nameOf_9 : decode cX1_nameOf 9 = .ok (.if_icmp .ge 12, 3) := by decide +kernel
theorem dX1_nameOf_12 : decode cX1_nameOf 12 = .ok (.aload_n 0, 1) := by decide +kernel
theorem dX1_nameOf_13 : decode cX1_nameOf 13 = .ok (.getfield 15, 3) := by decide +kernel
theorem dX1_nameOf_16 : decode cX1_nameOf 16 = .ok (.iload_n 1, 1) := by decide +kernel
theorem dX1_nameOf_17 : decode cX1_nameOf 17 = .ok (.iaload, 1) := by decide +kernel
theorem dX1_nameOf_18 : decode cX1_nameOf 18 = .ok (.goto 4, 3) := by decide +kernel
theorem dX1_nameOf_21 : decode cX1_nameOf 21 = .ok (.iconst (-1), 1) := by decide +kernel
theorem dX1_nameOf_22 : decode cX1_nameOf 22 = .ok (.ireturn, 1) := by decide +kernel
theorem dX2_writeRow_0 : decode cX2_writeRow 0 = .ok (.aload_n 1, 1) := by decide +kernel
theorem dX2_writeRow_1 : decode cX2_writeRow 1 = .ok (.iload_n 2, 1) := by decide +kernel
theorem dX2_writeRow_2 : decode cX2_writeRow 2 = .ok (.invokevirtual 36, 3) := by decide +kernel
theorem dX2_writeRow_5 : decode cX2_writeRow 5 = .ok (.istore_n 3, 1) := by decide +kernel
theorem dX2_writeRow_6 : decode cX2_writeRow 6 = .ok (.iload_n 3, 1) := by decide +kernel
theorem dX2_writeRow_7 : decode cX2_writeRow 7 = .ok (.invokestatic 39, 3) := by decide +kernel
theorem dX2_writeRow_10 : decode cX2_writeRow 10 = .ok (.ifCond .ne 4, 3) := by decide +kernel
theorem dX2_writeRow_13 : decode cX2_writeRow 13 = .ok (.return_, 1) := by decide +kernel
theorem dX2_writeRow_14 : decode cX2_writeRow 14 = .ok (.aload_n 0, 1) := by decide +kernel
theorem dX2_writeRow_15 : decode cX2_writeRow 15 = .ok (.getstatic 43, 3) := by decide +kernel
theorem dX2_writeRow_18 : decode cX2_writeRow 18 = .ok (.iload_n 3, 1) := by decide +kernel
theorem dX2_writeRow_19 : decode cX2_writeRow 19 = .ok (.caload, 1) := by decide +kernel
theorem dX2_writeRow_20 : decode cX2_writeRow 20 = .ok (.invokevirtual 46, 3) := by decide +kernel
theorem dX2_writeRow_23 : decode cX2_writeRow 23 = .ok (.aload_n 0, 1) := by decide +kernel
theorem dX2_writeRow_24 : decode cX2_writeRow 24 = .ok (.aload_n 1, 1) := by decide +kernel
theorem dX2_writeRow_25 : decode cX2_writeRow 25 = .ok (.iload_n 2, 1) := by decide +kernel
theorem dX2_writeRow_26 : decode cX2_writeRow 26 = .ok (.invokevirtual 50, 3) := by decide +kernel
theorem dX2_writeRow_29 : decode cX2_writeRow 29 = .ok (.invokevirtual 53, 3) := by decide +kernel
theorem dX2_writeRow_32 : decode cX2_writeRow 32 = .ok (.iload_n 3, 1) := by decide +kernel
theorem dX2_writeRow_33 : decode cX2_writeRow 33 = .ok (.invokestatic 57, 3) := by decide +kernel
theorem dX2_writeRow_36 : decode cX2_writeRow 36 = .ok (.istore 4, 2) := by decide +kernel
theorem dX2_writeRow_38 : decode cX2_writeRow 38 = .ok (.iconst 0, 1) := by decide +kernel
theorem dX2_writeRow_39 : decode cX2_writeRow 39 = .ok (.istore 5, 2) := by decide +kernel
theorem dX2_writeRow_41 : decode cX2_writeRow 41 = .ok (.iload 5, 2) := by decide +kernel
theorem dX2_writeRow_43 : decode cX2_writeRow 43 = .ok (.iload 4, 2) := by decide +kernel
theorem dX2_writeRow_45 : decode cX2_writeRow 45 = .ok (.if_icmp .ge 36, 3) := by decide +kernel
theorem dX2_writeRow_48 : decode cX2_writeRow 48 = .ok (.aload_n 0, 1) := by decide +kernel
theorem dX2_writeRow_49 : decode cX2_writeRow 49 = .ok (.iload 5, 2) := by decide +kernel
theorem dX2_writeRow_51 : decode cX2_writeRow 51 = .ok (.ifCond .ne 8, 3) := by decide +kernel
theorem dX2_writeRow_54 : decode cX2_writeRow 54 = .ok (.bipush 61, 2) := by decide +kernel
theorem dX2_writeRow_56 : decode cX2_writeRow 56 = .ok (.goto 5, 3) := by decide +kernel
theorem dX2_writeRow_59 : decode cX2_writeRow 59 = .ok (.bipush 44, 2) := by decide +kernel
theorem dX2_writeRow_61 : decode cX2_writeRow 61 = .ok (.invokevirtual 46, 3) := by decide +kernel
theorem dX2_writeRow_64 : decode cX2_writeRow 64 = .ok (.aload_n 0, 1) := by decide +kernel
theorem dX2_writeRow_65 : decode cX2_writeRow 65 = .ok (.aload_n 1, 1) := by decide +kernel
theorem dX2_writeRow_66 : decode cX2_writeRow 66 = .ok (.iload_n 2, 1) := by decide +kernel
theorem dX2_writeRow_67 : decode cX2_writeRow 67 = .ok (.iload 5, 2) := by decide +kernel
theorem dX2_writeRow_69 : decode cX2_writeRow 69 = .ok (.invokevirtual 60, 3) := by decide +kernel
theorem dX2_writeRow_72 : decode cX2_writeRow 72 = .ok (.invokevirtual 53, 3) := by decide +kernel
theorem dX2_writeRow_75 : decode cX2_writeRow 75 = .ok (.iinc 5 1, 3) := by decide +kernel
theorem dX2_writeRow_78 : decode cX2_writeRow 78 = .ok (.goto (-37), 3) := by decide +kernel
theorem dX2_writeRow_81 : decode cX2_writeRow 81 = .ok (.aload_n 0, 1) := by decide +kernel
theorem dX2_writeRow_82 : decode cX2_writeRow 82 = .ok (.bipush 59, 2) := by decide +kernel
theorem dX2_writeRow_84 : decode cX2_writeRow 84 = .ok (.invokevirtual 46, 3) := by decide +kernel
theorem dX2_writeRow_87 : decode cX2_writeRow 87 = .ok (.return_, 1) := by decide +kernel
theorem dX2_writeSign_0 : decode cX2_writeSign 0 = .ok (.aload_n 0, 1) := by decide +kernel
theorem dX2_writeSign_1 : decode cX2_writeSign 1 = .ok (.getfield 15, 3) := by decide +kernel
theorem dX2_writeSign_4 : decode cX2_writeSign 4 = .ok (.sipush 500, 3) := by decide +kernel
theorem dX2_writeSign_7 : decode cX2_writeSign 7 = .ok (.if_icmp .ge 23, 3) := by decide +kernel
theorem dX2_writeSign_10 : decode cX2_writeSign 10 = .ok (.aload_n 0, 1) := by decide +kernel
theorem dX2_writeSign_11 : decode cX2_writeSign 11 = .ok (.getfield 9, 3) := by decide +kernel
theorem dX2_writeSign_14 : decode cX2_writeSign 14 = .ok (.aload_n 0, 1) := by decide +kernel
theorem dX2_writeSign_15 : decode cX2_writeSign 15 = .ok (.getfield 15, 3) := by decide +kernel
theorem dX2_writeSign_18 : decode cX2_writeSign 18 = .ok (.iload_n 1, 1) := by decide +kernel
theorem dX2_writeSign_19 : decode cX2_writeSign 19 = .ok (.castore, 1) := by decide +kernel
theorem dX2_writeSign_20 : decode cX2_writeSign 20 = .ok (.aload_n 0, 1) := by decide +kernel
theorem dX2_writeSign_21 : decode cX2_writeSign 21 = .ok (.dup, 1) := by decide +kernel
theorem dX2_writeSign_22 : decode cX2_writeSign 22 = .ok (.getfield 15, 3) := by decide +kernel
theorem dX2_writeSign_25 : decode cX2_writeSign 25 = .ok (.iconst 1, 1) := by decide +kernel
theorem dX2_writeSign_26 : decode cX2_writeSign 26 = .ok (.iadd, 1) := by decide +kernel
theorem dX2_writeSign_27 : decode cX2_writeSign 27 = .ok (.putfield 15, 3) := by decide +kernel
theorem dX2_writeSign_30 : decode cX2_writeSign 30 = .ok (.return_, 1) := by decide +kernel
theorem dX2_writeNumber_0 : decode cX2_writeNumber 0 = .ok (.iload_n 1, 1) := by decide +kernel
theorem dX2_writeNumber_1 : decode cX2_writeNumber 1 = .ok (.bipush 10, 2) := by decide +kernel
theorem dX2_writeNumber_3 : decode cX2_writeNumber 3 = .ok (.if_icmp .lt 15, 3) := by decide +kernel
theorem dX2_writeNumber_6 : decode cX2_writeNumber 6 = .ok (.aload_n 0, 1) := by decide +kernel
theorem dX2_writeNumber_7 : decode cX2_writeNumber 7 = .ok (.bipush 48, 2) := by decide +kernel
theorem dX2_writeNumber_9 : decode cX2_writeNumber 9 = .ok (.iload_n 1, 1) := by decide +kernel
theorem dX2_writeNumber_10 : decode cX2_writeNumber 10 = .ok (.bipush 10, 2) := by decide +kernel
theorem dX2_writeNumber_12 : decode cX2_writeNumber 12 = .ok (.idiv, 1) := by decide +kernel
theorem dX2_writeNumber_13 : decode cX2_writeNumber 13 = .ok (.iadd, 1) := by decide +kernel
theorem dX2_writeNumber_14 : decode cX2_writeNumber 14 = .ok (.i2c, 1) := by decide +kernel
theorem dX2_writeNumber_15 : decode cX2_writeNumber 15 = .ok (.invokevirtual 46, 3) := by decide +kernel
theorem dX2_writeNumber_18 : decode cX2_writeNumber 18 = .ok (.aload_n 0, 1) := by decide +kernel
theorem dX2_writeNumber_19 : decode cX2_writeNumber 19 = .ok (.bipush 48, 2) := by decide +kernel
theorem dX2_writeNumber_21 : decode cX2_writeNumber 21 = .ok (.iload_n 1, 1) := by decide +kernel
theorem dX2_writeNumber_22 : decode cX2_writeNumber 22 = .ok (.bipush 10, 2) := by decide +kernel
theorem dX2_writeNumber_24 : decode cX2_writeNumber 24 = .ok (.irem, 1) := by decide +kernel
theorem dX2_writeNumber_25 : decode cX2_writeNumber 25 = .ok (.iadd, 1) := by decide +kernel
theorem dX2_writeNumber_26 : decode cX2_writeNumber 26 = .ok (.i2c, 1) := by decide +kernel
theorem dX2_writeNumber_27 : decode cX2_writeNumber 27 = .ok (.invokevirtual 46, 3) := by decide +kernel
theorem dX2_writeNumber_30 : decode cX2_writeNumber 30 = .ok (.return_, 1) := by decide +kernel
theorem dL_piece_0 : decode cL_piece 0 = .ok (.aload_n 3, 1) := by decide +kernel
theorem dL_piece_1 : decode cL_piece 1 = .ok (.iconst 0, 1) := by decide +kernel
theorem dL_piece_2 : decode cL_piece 2 = .ok (.aload_n 0, 1) := by decide +kernel
theorem dL_piece_3 : decode cL_piece 3 = .ok (.iload_n 1, 1) := by decide +kernel
theorem dL_piece_4 : decode cL_piece 4 = .ok (.iload_n 2, 1) := by decide +kernel
theorem dL_piece_5 : decode cL_piece 5 = .ok (.invokevirtual 15, 3) := by decide +kernel
theorem dL_piece_8 : decode cL_piece 8 = .ok (.i2l, 1) := by decide +kernel
theorem dL_piece_9 : decode cL_piece 9 = .ok (.lastore, 1) := by decide +kernel
theorem dL_piece_10 : decode cL_piece 10 = .ok (.goto 7, 3) := by decide +kernel
theorem dL_piece_13 : decode cL_piece 13 = .ok (.astore 4, 2) := by decide +kernel
theorem dL_piece_15 : decode cL_piece 15 = .ok (.iconst 1, 1) := by decide +kernel
theorem dL_piece_16 : decode cL_piece 16 = .ok (.ireturn, 1) := by decide +kernel
theorem dL_piece_17 : decode cL_piece 17 = .ok (.iconst 0, 1) := by decide +kernel
theorem dL_piece_18 : decode cL_piece 18 = .ok (.ireturn, 1) := by decide +kernel
theorem dX5_piece_0 : decode cX5_piece 0 = .ok (.iload_n 1, 1) := by decide +kernel
theorem dX5_piece_1 : decode cX5_piece 1 = .ok (.ifCond .lt 14, 3) := by decide +kernel
theorem dX5_piece_4 : decode cX5_piece 4 = .ok (.iload_n 1, 1) := by decide +kernel
theorem dX5_piece_5 : decode cX5_piece 5 = .ok (.aload_n 0, 1) := by decide +kernel
theorem dX5_piece_6 : decode cX5_piece 6 = .ok (.getfield 19, 3) := by decide +kernel
theorem dX5_piece_9 : decode cX5_piece 9 = .ok (.invokevirtual 77, 3) := by decide +kernel
theorem dX5_piece_12 : decode cX5_piece 12 = .ok (.if_icmp .lt 13, 3) := by decide +kernel
theorem dX5_piece_15 : decode cX5_piece 15 = .ok (.new 87, 3) := by decide +kernel
theorem dX5_piece_18 : decode cX5_piece 18 = .ok (.dup, 1) := by decide +kernel
theorem dX5_piece_19 : decode cX5_piece 19 = .ok (.ldc 89, 2) := by decide +kernel
theorem dX5_piece_21 : decode cX5_piece 21 = .ok (.invokespecial 91, 3) := by decide +kernel
theorem dX5_piece_24 : decode cX5_piece 24 = .ok (.athrow, 1) := by decide +kernel
theorem dX5_piece_25 : decode cX5_piece 25 = .ok (.aload_n 0, 1) := by decide +kernel
theorem dX5_piece_26 : decode cX5_piece 26 = .ok (.getfield 19, 3) := by decide +kernel
theorem dX5_piece_29 : decode cX5_piece 29 = .ok (.iload_n 1, 1) := by decide +kernel
theorem dX5_piece_30 : decode cX5_piece 30 = .ok (.invokevirtual 92, 3) := by decide +kernel
theorem dX5_piece_33 : decode cX5_piece 33 = .ok (.istore_n 3, 1) := by decide +kernel
theorem dX5_piece_34 : decode cX5_piece 34 = .ok (.iload_n 2, 1) := by decide +kernel
theorem dX5_piece_35 : decode cX5_piece 35 = .ok (.ifCond .lt 13, 3) := by decide +kernel
theorem dX5_piece_38 : decode cX5_piece 38 = .ok (.iload_n 2, 1) := by decide +kernel
theorem dX5_piece_39 : decode cX5_piece 39 = .ok (.iconst 2, 1) := by decide +kernel
theorem dX5_piece_40 : decode cX5_piece 40 = .ok (.iload_n 3, 1) := by decide +kernel
theorem dX5_piece_41 : decode cX5_piece 41 = .ok (.invokestatic 96, 3) := by decide +kernel
theorem dX5_piece_44 : decode cX5_piece 44 = .ok (.iadd, 1) := by decide +kernel
theorem dX5_piece_45 : decode cX5_piece 45 = .ok (.if_icmp .lt 13, 3) := by decide +kernel
theorem dX5_piece_48 : decode cX5_piece 48 = .ok (.new 87, 3) := by decide +kernel
theorem dX5_piece_51 : decode cX5_piece 51 = .ok (.dup, 1) := by decide +kernel
theorem dX5_piece_52 : decode cX5_piece 52 = .ok (.ldc 99, 2) := by decide +kernel
theorem dX5_piece_54 : decode cX5_piece 54 = .ok (.invokespecial 91, 3) := by decide +kernel
theorem dX5_piece_57 : decode cX5_piece 57 = .ok (.athrow, 1) := by decide +kernel
theorem dX5_piece_58 : decode cX5_piece 58 = .ok (.iload_n 2, 1) := by decide +kernel
theorem dX5_piece_59 : decode cX5_piece 59 = .ok (.ifCond .ne 5, 3) := by decide +kernel
theorem dX5_piece_62 : decode cX5_piece 62 = .ok (.iload_n 3, 1) := by decide +kernel
theorem dX5_piece_63 : decode cX5_piece 63 = .ok (.ireturn, 1) := by decide +kernel
theorem dX5_piece_64 : decode cX5_piece 64 = .ok (.iload_n 2, 1) := by decide +kernel
theorem dX5_piece_65 : decode cX5_piece 65 = .ok (.iconst 1, 1) := by decide +kernel
theorem dX5_piece_66 : decode cX5_piece 66 = .ok (.if_icmp .ne 14, 3) := by decide +kernel
theorem dX5_piece_69 : decode cX5_piece 69 = .ok (.aload_n 0, 1) := by decide +kernel
theorem dX5_piece_70 : decode cX5_piece 70 = .ok (.getfield 19, 3) := by decide +kernel
theorem dX5_piece_73 : decode cX5_piece 73 = .ok (.iload_n 1, 1) := by decide +kernel
theorem dX5_piece_74 : decode cX5_piece 74 = .ok (.invokevirtual 101, 3) := by decide +kernel
theorem dX5_piece_77 : decode cX5_piece 77 = .ok (.goto 14, 3) := by decide +kernel
theorem dX5_piece_80 : decode cX5_piece 80 = .ok (.aload_n 0, 1) := by decide +kernel
theorem dX5_piece_81 : decode cX5_piece 81 = .ok (.getfield 19, 3) := by decide +kernel
theorem dX5_piece_84 : decode cX5_piece 84 = .ok (.iload_n 1, 1) := by decide +kernel
theorem dX5_piece_85 : decode cX5_piece 85 = .ok (.iload_n 2, 1) := by decide +kernel
theorem dX5_piece_86 : decode cX5_piece 86 = .ok (.iconst 2, 1) := by decide +kernel
theorem dX5_piece_87 : decode cX5_piece 87 = .ok (.isub, 1) := by decide +kernel
theorem dX5_piece_88 : decode cX5_piece 88 = .ok (.invokevirtual 104, 3) := by decide +kernel
theorem dX5_piece_91 : decode cX5_piece 91 = .ok (.ireturn, 1) := by decide +kernel
theorem dL_reach_0 : decode cL_reach 0 = .ok (.aload 4, 2) := by decide +kernel
theorem dL_reach_2 : decode cL_reach 2 = .ok (.iconst 0, 1) := by decide +kernel
theorem dL_reach_3 : decode cL_reach 3 = .ok (.aload_n 0, 1) := by decide +kernel
theorem dL_reach_4 : decode cL_reach 4 = .ok (.iload_n 1, 1) := by decide +kernel
theorem dL_reach_5 : decode cL_reach 5 = .ok (.iload_n 2, 1) := by decide +kernel
theorem dL_reach_6 : decode cL_reach 6 = .ok (.iload_n 3, 1) := by decide +kernel
theorem dL_reach_7 : decode cL_reach 7 = .ok (.invokevirtual 21, 3) := by decide +kernel
theorem dL_reach_10 : decode cL_reach 10 = .ok (.i2l, 1) := by decide +kernel
theorem dL_reach_11 : decode cL_reach 11 = .ok (.lastore, 1) := by decide +kernel
theorem dL_reach_12 : decode cL_reach 12 = .ok (.goto 7, 3) := by decide +kernel
theorem dL_reach_15 : decode cL_reach 15 = .ok (.astore 5, 2) := by decide +kernel
theorem dL_reach_17 : decode cL_reach 17 = .ok (.iconst 1, 1) := by decide +kernel
theorem dL_reach_18 : decode cL_reach 18 = .ok (.ireturn, 1) := by decide +kernel
theorem dL_reach_19 : decode cL_reach 19 = .ok (.iconst 0, 1) := by decide +kernel
theorem dL_reach_20 : decode cL_reach 20 = .ok (.ireturn, 1) := by decide +kernel
theorem dX5_reach_0 : decode cX5_reach 0 = .ok (.iload_n 1, 1) := by decide +kernel
theorem dX5_reach_1 : decode cX5_reach 1 = .ok (.ifCond .eq 18, 3) := by decide +kernel
theorem dX5_reach_4 : decode cX5_reach 4 = .ok (.iload_n 1, 1) := by decide +kernel
theorem dX5_reach_5 : decode cX5_reach 5 = .ok (.iconst 1, 1) := by decide +kernel
theorem dX5_reach_6 : decode cX5_reach 6 = .ok (.if_icmp .eq 13, 3) := by decide +kernel
theorem dX5_reach_9 : decode cX5_reach 9 = .ok (.new 111, 3) := by decide +kernel
theorem dX5_reach_12 : decode cX5_reach 12 = .ok (.dup, 1) := by decide +kernel
theorem dX5_reach_13 : decode cX5_reach 13 = .ok (.ldc 113, 2) := by decide +kernel
theorem dX5_reach_15 : decode cX5_reach 15 = .ok (.invokespecial 115, 3) := by decide +kernel
theorem dX5_reach_18 : decode cX5_reach 18 = .ok (.athrow, 1) := by decide +kernel
theorem dX5_reach_19 : decode cX5_reach 19 = .ok (.iload_n 2, 1) := by decide +kernel
theorem dX5_reach_20 : decode cX5_reach 20 = .ok (.invokestatic 116, 3) := by decide +kernel
theorem dX5_reach_23 : decode cX5_reach 23 = .ok (.ifCond .eq 10, 3) := by decide +kernel
theorem dX5_reach_26 : decode cX5_reach 26 = .ok (.iload_n 3, 1) := by decide +kernel
theorem dX5_reach_27 : decode cX5_reach 27 = .ok (.invokestatic 116, 3) := by decide +kernel
theorem dX5_reach_30 : decode cX5_reach 30 = .ok (.ifCond .ne 13, 3) := by decide +kernel
theorem dX5_reach_33 : decode cX5_reach 33 = .ok (.new 111, 3) := by decide +kernel
theorem dX5_reach_36 : decode cX5_reach 36 = .ok (.dup, 1) := by decide +kernel
theorem dX5_reach_37 : decode cX5_reach 37 = .ok (.ldc 119, 2) := by decide +kernel
theorem dX5_reach_39 : decode cX5_reach 39 = .ok (.invokespecial 115, 3) := by decide +kernel
theorem dX5_reach_42 : decode cX5_reach 42 = .ok (.athrow, 1) := by decide +kernel
theorem dX5_reach_43 : decode cX5_reach 43 = .ok (.aload_n 0, 1) := by decide +kernel
theorem dX5_reach_44 : decode cX5_reach 44 = .ok (.getfield 29, 3) := by decide +kernel
theorem dX5_reach_47 : decode cX5_reach 47 = .ok (.aload_n 0, 1) := by decide +kernel
theorem dX5_reach_48 : decode cX5_reach 48 = .ok (.getfield 19, 3) := by decide +kernel
theorem dX5_reach_51 : decode cX5_reach 51 = .ok (.iload_n 1, 1) := by decide +kernel
theorem dX5_reach_52 : decode cX5_reach 52 = .ok (.ifCond .ne 7, 3) := by decide +kernel
theorem dX5_reach_55 : decode cX5_reach 55 = .ok (.iconst 0, 1) := by decide +kernel
theorem dX5_reach_56 : decode cX5_reach 56 = .ok (.goto 4, 3) := by decide +kernel
theorem dX5_reach_59 : decode cX5_reach 59 = .ok (.iconst 4, 1) := by decide +kernel
theorem dX5_reach_60 : decode cX5_reach 60 = .ok (.iload_n 2, 1) := by decide +kernel
theorem dX5_reach_61 : decode cX5_reach 61 = .ok (.invokevirtual 121, 3) := by decide +kernel
theorem dX5_reach_64 : decode cX5_reach 64 = .ok (.aload_n 0, 1) := by decide +kernel
theorem dX5_reach_65 : decode cX5_reach 65 = .ok (.getfield 29, 3) := by decide +kernel
theorem dX5_reach_68 : decode cX5_reach 68 = .ok (.iload_n 3, 1) := by decide +kernel
theorem dX5_reach_69 : decode cX5_reach 69 = .ok (.invokevirtual 125, 3) := by decide +kernel
theorem dX5_reach_72 : decode cX5_reach 72 = .ok (.ifCond .le 7, 3) := by decide +kernel
theorem dX5_reach_75 : decode cX5_reach 75 = .ok (.iconst 1, 1) := by decide +kernel
theorem dX5_reach_76 : decode cX5_reach 76 = .ok (.goto 4, 3) := by decide +kernel
theorem dX5_reach_79 : decode cX5_reach 79 = .ok (.iconst 0, 1) := by decide +kernel
theorem dX5_reach_80 : decode cX5_reach 80 = .ok (.ireturn, 1) := by decide +kernel
theorem dL_deep_0 : decode cL_deep 0 = .ok (.aload_n 3, 1) := by decide +kernel
theorem dL_deep_1 : decode cL_deep 1 = .ok (.iconst 0, 1) := by decide +kernel
theorem dL_deep_2 : decode cL_deep 2 = .ok (.aload_n 0, 1) := by decide +kernel
theorem dL_deep_3 : decode cL_deep 3 = .ok (.iload_n 1, 1) := by decide +kernel
theorem dL_deep_4 : decode cL_deep 4 = .ok (.iload_n 2, 1) := by decide +kernel
theorem dL_deep_5 : decode cL_deep 5 = .ok (.invokevirtual 27, 3) := by decide +kernel
theorem dL_deep_8 : decode cL_deep 8 = .ok (.i2l, 1) := by decide +kernel
theorem dL_deep_9 : decode cL_deep 9 = .ok (.lastore, 1) := by decide +kernel
theorem dL_deep_10 : decode cL_deep 10 = .ok (.goto 7, 3) := by decide +kernel
theorem dL_deep_13 : decode cL_deep 13 = .ok (.astore 4, 2) := by decide +kernel
theorem dL_deep_15 : decode cL_deep 15 = .ok (.iconst 1, 1) := by decide +kernel
theorem dL_deep_16 : decode cL_deep 16 = .ok (.ireturn, 1) := by decide +kernel
theorem dL_deep_17 : decode cL_deep 17 = .ok (.iconst 0, 1) := by decide +kernel
theorem dL_deep_18 : decode cL_deep 18 = .ok (.ireturn, 1) := by decide +kernel
theorem dX5_deep_0 : decode cX5_deep 0 = .ok (.iload_n 1, 1) := by decide +kernel
theorem dX5_deep_1 : decode cX5_deep 1 = .ok (.invokestatic 116, 3) := by decide +kernel
theorem dX5_deep_4 : decode cX5_deep 4 = .ok (.ifCond .eq 10, 3) := by decide +kernel
theorem dX5_deep_7 : decode cX5_deep 7 = .ok (.iload_n 2, 1) := by decide +kernel
theorem dX5_deep_8 : decode cX5_deep 8 = .ok (.invokestatic 116, 3) := by decide +kernel
theorem dX5_deep_11 : decode cX5_deep 11 = .ok (.ifCond .ne 13, 3) := by decide +kernel
theorem dX5_deep_14 : decode cX5_deep 14 = .ok (.new 111, 3) := by decide +kernel
theorem dX5_deep_17 : decode cX5_deep 17 = .ok (.dup, 1) := by decide +kernel
theorem dX5_deep_18 : decode cX5_deep 18 = .ok (.ldc 119, 2) := by decide +kernel
theorem dX5_deep_20 : decode cX5_deep 20 = .ok (.invokespecial 115, 3) := by decide +kernel
theorem dX5_deep_23 : decode cX5_deep 23 = .ok (.athrow, 1) := by decide +kernel
theorem dX5_deep_24 : decode cX5_deep 24 = .ok (.aload_n 0, 1) := by decide +kernel
theorem dX5_deep_25 : decode cX5_deep 25 = .ok (.getfield 29, 3) := by decide +kernel
theorem dX5_deep_28 : decode cX5_deep 28 = .ok (.aload_n 0, 1) := by decide +kernel
theorem dX5_deep_29 : decode cX5_deep 29 = .ok (.getfield 19, 3) := by decide +kernel
theorem dX5_deep_32 : decode cX5_deep 32 = .ok (.iconst 0, 1) := by decide +kernel
theorem dX5_deep_33 : decode cX5_deep 33 = .ok (.iload_n 1, 1) := by decide +kernel
theorem dX5_deep_34 : decode cX5_deep 34 = .ok (.invokevirtual 121, 3) := by decide +kernel
theorem dX5_deep_37 : decode cX5_deep 37 = .ok (.aload_n 0, 1) := by decide +kernel
theorem dX5_deep_38 : decode cX5_deep 38 = .ok (.getfield 29, 3) := by decide +kernel
theorem dX5_deep_41 : decode cX5_deep 41 = .ok (.iload_n 2, 1) := by decide +kernel
theorem dX5_deep_42 : decode cX5_deep 42 = .ok (.invokevirtual 125, 3) := by decide +kernel
theorem dX5_deep_45 : decode cX5_deep 45 = .ok (.ireturn, 1) := by decide +kernel
theorem dL_at_0 : decode cL_at 0 = .ok (.aload_n 2, 1) := by decide +kernel
theorem dL_at_1 : decode cL_at 1 = .ok (.iconst 0, 1) := by decide +kernel
theorem dL_at_2 : decode cL_at 2 = .ok (.aload_n 0, 1) := by decide +kernel
theorem dL_at_3 : decode cL_at 3 = .ok (.iload_n 1, 1) := by decide +kernel
theorem dL_at_4 : decode cL_at 4 = .ok (.invokevirtual 30, 3) := by decide +kernel
theorem dL_at_7 : decode cL_at 7 = .ok (.i2l, 1) := by decide +kernel
theorem dL_at_8 : decode cL_at 8 = .ok (.lastore, 1) := by decide +kernel
theorem dL_at_9 : decode cL_at 9 = .ok (.goto 6, 3) := by decide +kernel
theorem dL_at_12 : decode cL_at 12 = .ok (.astore_n 3, 1) := by decide +kernel
theorem dL_at_13 : decode cL_at 13 = .ok (.iconst 1, 1) := by decide +kernel
theorem dL_at_14 : decode cL_at 14 = .ok (.ireturn, 1) := by decide +kernel
theorem dL_at_15 : decode cL_at 15 = .ok (.iconst 0, 1) := by decide +kernel
theorem dL_at_16 : decode cL_at 16 = .ok (.ireturn, 1) := by decide +kernel
theorem dX5_at_0 : decode cX5_at 0 = .ok (.iload_n 1, 1) := by decide +kernel
theorem dX5_at_1 : decode cX5_at 1 = .ok (.ifCond .lt 14, 3) := by decide +kernel
theorem dX5_at_4 : decode cX5_at 4 = .ok (.iload_n 1, 1) := by decide +kernel
theorem dX5_at_5 : decode cX5_at 5 = .ok (.aload_n 0, 1) := by decide +kernel
theorem dX5_at_6 : decode cX5_at 6 = .ok (.getfield 43, 3) := by decide +kernel
theorem dX5_at_9 : decode cX5_at 9 = .ok (.invokevirtual 132, 3) := by decide +kernel
theorem dX5_at_12 : decode cX5_at 12 = .ok (.if_icmp .lt 13, 3) := by decide +kernel
theorem dX5_at_15 : decode cX5_at 15 = .ok (.new 87, 3) := by decide +kernel
theorem dX5_at_18 : decode cX5_at 18 = .ok (.dup, 1) := by decide +kernel
theorem dX5_at_19 : decode cX5_at 19 = .ok (.ldc 135, 2) := by decide +kernel
theorem dX5_at_21 : decode cX5_at 21 = .ok (.invokespecial 91, 3) := by decide +kernel
theorem dX5_at_24 : decode cX5_at 24 = .ok (.athrow, 1) := by decide +kernel
theorem dX5_at_25 : decode cX5_at 25 = .ok (.aload_n 0, 1) := by decide +kernel
theorem dX5_at_26 : decode cX5_at 26 = .ok (.getfield 43, 3) := by decide +kernel
theorem dX5_at_29 : decode cX5_at 29 = .ok (.iload_n 1, 1) := by decide +kernel
theorem dX5_at_30 : decode cX5_at 30 = .ok (.invokevirtual 137, 3) := by decide +kernel
theorem dX5_at_33 : decode cX5_at 33 = .ok (.ireturn, 1) := by decide +kernel
theorem dX2_signAt_0 : decode cX2_signAt 0 = .ok (.iload_n 1, 1) := by decide +kernel
theorem dX2_signAt_1 : decode cX2_signAt 1 = .ok (.ifCond .lt 20, 3) := by decide +kernel
theorem dX2_signAt_4 : decode cX2_signAt 4 = .ok (.iload_n 1, 1) := by decide +kernel
theorem dX2_signAt_5 : decode cX2_signAt 5 = .ok (.aload_n 0, 1) := by decide +kernel
theorem dX2_signAt_6 : decode cX2_signAt 6 = .ok (.getfield 15, 3) := by decide +kernel
theorem dX2_signAt_9 : decode cX2_signAt 9 = .ok (.if_icmp .ge 12, 3) := by decide +kernel
theorem dX2_signAt_12 : decode cX2_signAt 12 = .ok (.aload_n 0, 1) := by decide +kernel
theorem dX2_signAt_13 : decode cX2_signAt 13 = .ok (.getfield 9, 3) := by decide +kernel
theorem dX2_signAt_16 : decode cX2_signAt 16 = .ok (.iload_n 1, 1) := by decide +kernel
theorem dX2_signAt_17 : decode cX2_signAt 17 = .ok (.caload, 1) := by decide +kernel
theorem dX2_signAt_18 : decode cX2_signAt 18 = .ok (.goto 4, 3) := by decide +kernel
theorem dX2_signAt_21 : decode cX2_signAt 21 = .ok (.iconst (-1), 1) := by decide +kernel
theorem dX2_signAt_22 : decode cX2_signAt 22 = .ok (.ireturn, 1) := by decide +kernel
theorem dX6_init_0 : decode cX6_init 0 = .ok (.aload_n 0, 1) := by decide +kernel
theorem dX6_init_1 : decode cX6_init 1 = .ok (.invokespecial 1, 3) := by decide +kernel
theorem dX6_init_4 : decode cX6_init 4 = .ok (.aload_n 0, 1) := by decide +kernel
theorem dX6_init_5 : decode cX6_init 5 = .ok (.sipush 500, 3) := by decide +kernel
theorem dX6_init_8 : decode cX6_init 8 = .ok (.newarray .int, 2) := by decide +kernel
theorem dX6_init_10 : decode cX6_init 10 = .ok (.putfield 7, 3) := by decide +kernel
theorem dX6_init_13 : decode cX6_init 13 = .ok (.aload_n 0, 1) := by decide +kernel
theorem dX6_init_14 : decode cX6_init 14 = .ok (.iconst (-1), 1) := by decide +kernel
theorem dX6_init_15 : decode cX6_init 15 = .ok (.putfield 13, 3) := by decide +kernel
theorem dX6_init_18 : decode cX6_init 18 = .ok (.aload_n 0, 1) := by decide +kernel
theorem dX6_init_19 : decode cX6_init 19 = .ok (.sipush 900, 3) := by decide +kernel
theorem dX6_init_22 : decode cX6_init 22 = .ok (.newarray .int, 2) := by decide +kernel
theorem dX6_init_24 : decode cX6_init 24 = .ok (.putfield 17, 3) := by decide +kernel
theorem dX6_init_27 : decode cX6_init 27 = .ok (.aload_n 0, 1) := by decide +kernel
theorem dX6_init_28 : decode cX6_init 28 = .ok (.bipush 16, 2) := by decide +kernel
theorem dX6_init_30 : decode cX6_init 30 = .ok (.newarray .int, 2) := by decide +kernel
theorem dX6_init_32 : decode cX6_init 32 = .ok (.putfield 20, 3) := by decide +kernel
theorem dX6_init_35 : decode cX6_init 35 = .ok (.aload_n 0, 1) := by decide +kernel
theorem dX6_init_36 : decode cX6_init 36 = .ok (.bipush 16, 2) := by decide +kernel
theorem dX6_init_38 : decode cX6_init 38 = .ok (.newarray .int, 2) := by decide +kernel
theorem dX6_init_40 : decode cX6_init 40 = .ok (.putfield 23, 3) := by decide +kernel
theorem dX6_init_43 : decode cX6_init 43 = .ok (.return_, 1) := by decide +kernel
theorem dX6_thrown_0 : decode cX6_thrown 0 = .ok (.aload_n 0, 1) := by decide +kernel
theorem dX6_thrown_1 : decode cX6_thrown 1 = .ok (.getfield 26, 3) := by decide +kernel
theorem dX6_thrown_4 : decode cX6_thrown 4 = .ok (.ireturn, 1) := by decide +kernel
theorem dX6_sign_0 : decode cX6_sign 0 = .ok (.aload_n 0, 1) := by decide +kernel
theorem dX6_sign_1 : decode cX6_sign 1 = .ok (.iconst 0, 1) := by decide +kernel
theorem dX6_sign_2 : decode cX6_sign 2 = .ok (.putfield 26, 3) := by decide +kernel
theorem dX6_sign_5 : decode cX6_sign 5 = .ok (.iload_n 1, 1) := by decide +kernel
theorem dX6_sign_6 : decode cX6_sign 6 = .ok (.bipush 33, 2) := by decide +kernel
theorem dX6_sign_8 : decode cX6_sign 8 = .ok (.bipush 126, 2) := by decide +kernel
theorem dX6_sign_10 : decode cX6_sign 10 = .ok (.invokestatic 33, 3) := by decide +kernel
theorem dX6_sign_13 : decode cX6_sign 13 = .ok (.ifCond .eq 13, 3) := by decide +kernel
theorem dX6_sign_16 : decode cX6_sign 16 = .ok (.aload_n 0, 1) := by decide +kernel
theorem dX6_sign_17 : decode cX6_sign 17 = .ok (.getfield 37, 3) := by decide +kernel
theorem dX6_sign_20 : decode cX6_sign 20 = .ok (.sipush 500, 3) := by decide +kernel
theorem dX6_sign_23 : decode cX6_sign 23 = .ok (.if_icmp .ne 5, 3) := by decide +kernel
theorem dX6_sign_26 : decode cX6_sign 26 = .ok (.iconst 0, 1) := by decide +kernel
theorem dX6_sign_27 : decode cX6_sign 27 = .ok (.ireturn, 1) := by decide +kernel
theorem dX6_sign_28 : decode cX6_sign 28 = .ok (.aload_n 0, 1) := by decide +kernel
theorem dX6_sign_29 : decode cX6_sign 29 = .ok (.getfield 7, 3) := by decide +kernel
theorem dX6_sign_32 : decode cX6_sign 32 = .ok (.aload_n 0, 1) := by decide +kernel
theorem dX6_sign_33 : decode cX6_sign 33 = .ok (.getfield 37, 3) := by decide +kernel
theorem dX6_sign_36 : decode cX6_sign 36 = .ok (.iload_n 1, 1) := by decide +kernel
theorem dX6_sign_37 : decode cX6_sign 37 = .ok (.iastore, 1) := by decide +kernel
theorem dX6_sign_38 : decode cX6_sign 38 = .ok (.aload_n 0, 1) := by decide +kernel
theorem dX6_sign_39 : decode cX6_sign 39 = .ok (.dup, 1) := by decide +kernel
theorem dX6_sign_40 : decode cX6_sign 40 = .ok (.getfield 37, 3) := by decide +kernel
theorem dX6_sign_43 : decode cX6_sign 43 = .ok (.iconst 1, 1) := by decide +kernel
theorem dX6_sign_44 : decode cX6_sign 44 = .ok (.iadd, 1) := by decide +kernel
theorem dX6_sign_45 : decode cX6_sign 45 = .ok (.putfield 37, 3) := by decide +kernel
theorem dX6_sign_48 : decode cX6_sign 48 = .ok (.iconst 1, 1) := by decide +kernel
theorem dX6_sign_49 : decode cX6_sign 49 = .ok (.ireturn, 1) := by decide +kernel
theorem dX6_in_0 : decode cX6_in 0 = .ok (.iload_n 0, 1) := by decide +kernel
theorem dX6_in_1 : decode cX6_in 1 = .ok (.iload_n 1, 1) := by decide +kernel
theorem dX6_in_2 : decode cX6_in 2 = .ok (.if_icmp .lt 12, 3) := by decide +kernel
theorem dX6_in_5 : decode cX6_in 5 = .ok (.iload_n 0, 1) := by decide +kernel
theorem dX6_in_6 : decode cX6_in 6 = .ok (.iload_n 2, 1) := by decide +kernel
theorem dX6_in_7 : decode cX6_in 7 = .ok (.if_icmp .gt 7, 3) := by decide +kernel
theorem dX6_in_10 : decode cX6_in 10 = .ok (.iconst 1, 1) := by decide +kernel
theorem dX6_in_11 : decode cX6_in 11 = .ok (.goto 4, 3) := by decide +kernel
theorem dX6_in_14 : decode cX6_in 14 = .ok (.iconst 0, 1) := by decide +kernel
theorem dX6_in_15 : decode cX6_in 15 = .ok (.ireturn, 1) := by decide +kernel
theorem dX6_read_0 : decode cX6_read 0 = .ok (.aload_n 0, 1) := by decide +kernel
theorem dX6_read_1 : decode cX6_read 1 = .ok (.iconst 0, 1) := by decide +kernel
theorem dX6_read_2 : decode cX6_read 2 = .ok (.putfield 40, 3) := by decide +kernel
theorem dX6_read_5 : decode cX6_read 5 = .ok (.aload_n 0, 1) := by decide +kernel
theorem dX6_read_6 : decode cX6_read 6 = .ok (.iconst (-1), 1) := by decide +kernel
theorem dX6_read_7 : decode cX6_read 7 = .ok (.putfield 13, 3) := by decide +kernel
theorem dX6_read_10 : decode cX6_read 10 = .ok (.aload_n 0, 1) := by decide +kernel
theorem dX6_read_11 : decode cX6_read 11 = .ok (.iconst 0, 1) := by decide +kernel
theorem dX6_read_12 : decode cX6_read 12 = .ok (.putfield 50, 3) := by decide +kernel
theorem dX6_read_15 : decode cX6_read 15 = .ok (.iconst 0, 1) := by decide +kernel
theorem dX6_read_16 : decode cX6_read 16 = .ok (.istore_n 1, 1) := by decide +kernel
theorem dX6_read_17 : decode cX6_read 17 = .ok (.iload_n 1, 1) := by decide +kernel
theorem dX6_read_18 : decode cX6_read 18 = .ok (.ifCond .lt 38, 3) := by decide +kernel
theorem dX6_read_21 : decode cX6_read 21 = .ok (.iload_n 1, 1) := by decide +kernel
theorem dX6_read_22 : decode cX6_read 22 = .ok (.aload_n 0, 1) := by decide +kernel
theorem dX6_read_23 : decode cX6_read 23 = .ok (.getfield 37, 3) := by decide +kernel
theorem dX6_read_26 : decode cX6_read 26 = .ok (.if_icmp .ge 30, 3) := by decide +kernel
theorem dX6_read_29 : decode cX6_read 29 = .ok (.aload_n 0, 1) := by decide +kernel
theorem dX6_read_30 : decode cX6_read 30 = .ok (.iload_n 1, 1) := by decide +kernel
theorem dX6_read_31 : decode cX6_read 31 = .ok (.invokevirtual 80, 3) := by decide +kernel
theorem dX6_read_34 : decode cX6_read 34 = .ok (.istore_n 1, 1) := by decide +kernel
theorem dX6_read_35 : decode cX6_read 35 = .ok (.aload_n 0, 1) := by decide +kernel
theorem dX6_read_36 : decode cX6_read 36 = .ok (.dup, 1) := by decide +kernel
theorem dX6_read_37 : decode cX6_read 37 = .ok (.getfield 50, 3) := by decide +kernel
theorem dX6_read_40 : decode cX6_read 40 = .ok (.iload_n 1, 1) := by decide +kernel
theorem dX6_read_41 : decode cX6_read 41 = .ok (.ifCond .lt 7, 3) := by decide +kernel
theorem dX6_read_44 : decode cX6_read 44 = .ok (.iconst 1, 1) := by decide +kernel
theorem dX6_read_45 : decode cX6_read 45 = .ok (.goto 4, 3) := by decide +kernel
theorem dX6_read_48 : decode cX6_read 48 = .ok (.iconst 0, 1) := by decide +kernel
theorem dX6_read_49 : decode cX6_read 49 = .ok (.iadd, 1) := by decide +kernel
theorem dX6_read_50 : decode cX6_read 50 = .ok (.putfield 50, 3) := by decide +kernel
theorem dX6_read_53 : decode cX6_read 53 = .ok (.goto (-36), 3) := by decide +kernel
theorem dX6_read_56 : decode cX6_read 56 = .ok (.aload_n 0, 1) := by decide +kernel
theorem dX6_read_57 : decode cX6_read 57 = .ok (.iconst 0, 1) := by decide +kernel
theorem dX6_read_58 : decode cX6_read 58 = .ok (.putfield 37, 3) := by decide +kernel
theorem dX6_read_61 : decode cX6_read 61 = .ok (.iload_n 1, 1) := by decide +kernel
theorem dX6_read_62 : decode cX6_read 62 = .ok (.ifCond .ge 9, 3) := by decide +kernel
theorem dX6_read_65 : decode cX6_read 65 = .ok (.aload_n 0, 1) := by decide +kernel
theorem dX6_read_66 : decode cX6_read 66 = .ok (.iconst 1, 1) := by decide +kernel
theorem dX6_read_67 : decode cX6_read 67 = .ok (.invokevirtual 83, 3) := by decide +kernel
theorem dX6_read_70 : decode cX6_read 70 = .ok (.ireturn, 1) := by decide +kernel
theorem dX6_read_71 : decode cX6_read 71 = .ok (.aload_n 0, 1) := by decide +kernel
theorem dX6_read_72 : decode cX6_read 72 = .ok (.iconst 0, 1) := by decide +kernel
theorem dX6_read_73 : decode cX6_read 73 = .ok (.putfield 26, 3) := by decide +kernel
theorem dX6_read_76 : decode cX6_read 76 = .ok (.aload_n 0, 1) := by decide +kernel
theorem dX6_read_77 : decode cX6_read 77 = .ok (.aload_n 0, 1) := by decide +kernel
theorem dX6_read_78 : decode cX6_read 78 = .ok (.getfield 50, 3) := by decide +kernel
theorem dX6_read_81 : decode cX6_read 81 = .ok (.putfield 86, 3) := by decide +kernel
theorem dX6_read_84 : decode cX6_read 84 = .ok (.aload_n 0, 1) := by decide +kernel
theorem dX6_read_85 : decode cX6_read 85 = .ok (.sipush 600, 3) := by decide +kernel
theorem dX6_read_88 : decode cX6_read 88 = .ok (.iconst 0, 1) := by decide +kernel
theorem dX6_read_89 : decode cX6_read 89 = .ok (.aload_n 0, 1) := by decide +kernel
theorem dX6_read_90 : decode cX6_read 90 = .ok (.getfield 86, 3) := by decide +kernel
theorem dX6_read_93 : decode cX6_read 93 = .ok (.invokevirtual 89, 3) := by decide +kernel
theorem dX6_read_96 : decode cX6_read 96 = .ok (.aload_n 0, 1) := by decide +kernel
theorem dX6_read_97 : decode cX6_read 97 = .ok (.getfield 86, 3) := by decide +kernel
theorem dX6_read_100 : decode cX6_read 100 = .ok (.ireturn, 1) := by decide +kernel
theorem dX6_readsRow_0 : decode cX6_readsRow 0 = .ok (.aload_n 0, 1) := by decide +kernel
theorem dX6_readsRow_1 : decode cX6_readsRow 1 = .ok (.getfield 7, 3) := by decide +kernel
theorem dX6_readsRow_4 : decode cX6_readsRow 4 = .ok (.iload_n 1, 1) := by decide +kernel
theorem dX6_readsRow_5 : decode cX6_readsRow 5 = .ok (.iaload, 1) := by decide +kernel
theorem dX6_readsRow_6 : decode cX6_readsRow 6 = .ok (.invokestatic 70, 3) := by decide +kernel
theorem dX6_readsRow_9 : decode cX6_readsRow 9 = .ok (.istore_n 2, 1) := by decide +kernel
theorem dX6_readsRow_10 : decode cX6_readsRow 10 = .ok (.iload_n 2, 1) := by decide +kernel
theorem dX6_readsRow_11 : decode cX6_readsRow 11 = .ok (.ifCond .lt 12, 3) := by decide +kernel
theorem dX6_readsRow_14 : decode cX6_readsRow 14 = .ok (.aload_n 0, 1) := by decide +kernel
theorem dX6_readsRow_15 : decode cX6_readsRow 15 = .ok (.getfield 50, 3) := by decide +kernel
theorem dX6_readsRow_18 : decode cX6_readsRow 18 = .ok (.bipush 50, 2) := by decide +kernel
theorem dX6_readsRow_20 : decode cX6_readsRow 20 = .ok (.if_icmp .ne 18, 3) := by decide +kernel
theorem dX6_readsRow_23 : decode cX6_readsRow 23 = .ok (.aload_n 0, 1) := by decide +kernel
theorem dX6_readsRow_24 : decode cX6_readsRow 24 = .ok (.iload_n 2, 1) := by decide +kernel
theorem dX6_readsRow_25 : decode cX6_readsRow 25 = .ok (.ifCond .ge 7, 3) := by decide +kernel
theorem dX6_readsRow_28 : decode cX6_readsRow 28 = .ok (.iconst 1, 1) := by decide +kernel
theorem dX6_readsRow_29 : decode cX6_readsRow 29 = .ok (.goto 4, 3) := by decide +kernel
theorem dX6_readsRow_32 : decode cX6_readsRow 32 = .ok (.iconst 5, 1) := by decide +kernel
theorem dX6_readsRow_33 : decode cX6_readsRow 33 = .ok (.iload_n 1, 1) := by decide +kernel
theorem dX6_readsRow_34 : decode cX6_readsRow 34 = .ok (.invokevirtual 63, 3) := by decide +kernel
theorem dX6_readsRow_37 : decode cX6_readsRow 37 = .ok (.ireturn, 1) := by decide +kernel
theorem dX6_readsRow_38 : decode cX6_readsRow 38 = .ok (.aload_n 0, 1) := by decide +kernel
theorem dX6_readsRow_39 : decode cX6_readsRow 39 = .ok (.getfield 17, 3) := by decide +kernel
theorem dX6_readsRow_42 : decode cX6_readsRow 42 = .ok (.sipush 600, 3) := by decide +kernel
theorem dX6_readsRow_45 : decode cX6_readsRow 45 = .ok (.bipush 6, 2) := by decide +kernel
theorem dX6_readsRow_47 : decode cX6_readsRow 47 = .ok (.aload_n 0, 1) := by decide +kernel
theorem dX6_readsRow_48 : decode cX6_readsRow 48 = .ok (.getfield 50, 3) := by decide +kernel
theorem dX6_readsRow_51 : decode cX6_readsRow 51 = .ok (.imul, 1) := by decide +kernel
theorem dX6_readsRow_52 : decode cX6_readsRow 52 = .ok (.iadd, 1) := by decide +kernel
theorem dX6_readsRow_53 : decode cX6_readsRow 53 = .ok (.iload_n 2, 1) := by decide +kernel
theorem dX6_readsRow_54 : decode cX6_readsRow 54 = .ok (.iastore, 1) := by decide +kernel
theorem dX6_readsRow_55 : decode cX6_readsRow 55 = .ok (.aload_n 0, 1) := by decide +kernel
theorem dX6_readsRow_56 : decode cX6_readsRow 56 = .ok (.iload_n 1, 1) := by decide +kernel
theorem dX6_readsRow_57 : decode cX6_readsRow 57 = .ok (.iconst 1, 1) := by decide +kernel
theorem dX6_readsRow_58 : decode cX6_readsRow 58 = .ok (.iadd, 1) := by decide +kernel
theorem dX6_readsRow_59 : decode cX6_readsRow 59 = .ok (.iconst (-1), 1) := by decide +kernel
theorem dX6_readsRow_60 : decode cX6_readsRow 60 = .ok (.bipush 61, 2) := by decide +kernel
theorem dX6_readsRow_62 : decode cX6_readsRow 62 = .ok (.invokevirtual 73, 3) := by decide +kernel
theorem dX6_readsRow_65 : decode cX6_readsRow 65 = .ok (.istore_n 3, 1) := by decide +kernel
theorem dX6_readsRow_66 : decode cX6_readsRow 66 = .ok (.iload_n 2, 1) := by decide +kernel
theorem dX6_readsRow_67 : decode cX6_readsRow 67 = .ok (.invokestatic 77, 3) := by decide +kernel
theorem dX6_readsRow_70 : decode cX6_readsRow 70 = .ok (.istore 4, 2) := by decide +kernel
theorem dX6_readsRow_72 : decode cX6_readsRow 72 = .ok (.iconst 0, 1) := by decide +kernel
theorem dX6_readsRow_73 : decode cX6_readsRow 73 = .ok (.istore 5, 2) := by decide +kernel
theorem dX6_readsRow_75 : decode cX6_readsRow 75 = .ok (.iload 5, 2) := by decide +kernel
theorem dX6_readsRow_77 : decode cX6_readsRow 77 = .ok (.iload 4, 2) := by decide +kernel
theorem dX6_readsRow_79 : decode cX6_readsRow 79 = .ok (.if_icmp .ge 37, 3) := by decide +kernel
theorem dX6_readsRow_82 : decode cX6_readsRow 82 = .ok (.iload_n 3, 1) := by decide +kernel
theorem dX6_readsRow_83 : decode cX6_readsRow 83 = .ok (.ifCond .lt 33, 3) := by decide +kernel
theorem dX6_readsRow_86 : decode cX6_readsRow 86 = .ok (.aload_n 0, 1) := by decide +kernel
theorem dX6_readsRow_87 : decode cX6_readsRow 87 = .ok (.iload_n 3, 1) := by decide +kernel
theorem dX6_readsRow_88 : decode cX6_readsRow 88 = .ok (.iload 5, 2) := by decide +kernel
theorem dX6_readsRow_90 : decode cX6_readsRow 90 = .ok (.iload 5, 2) := by decide +kernel
theorem dX6_readsRow_92 : decode cX6_readsRow 92 = .ok (.iload 4, 2) := by decide +kernel
theorem dX6_readsRow_94 : decode cX6_readsRow 94 = .ok (.iconst 1, 1) := by decide +kernel
theorem dX6_readsRow_95 : decode cX6_readsRow 95 = .ok (.isub, 1) := by decide +kernel
theorem dX6_readsRow_96 : decode cX6_readsRow 96 = .ok (.if_icmp .ne 8, 3) := by decide +kernel
theorem dX6_readsRow_99 : decode cX6_readsRow 99 = .ok (.bipush 59, 2) := by decide +kernel
theorem dX6_readsRow_101 : decode cX6_readsRow 101 = .ok (.goto 5, 3) := by decide +kernel
theorem dX6_readsRow_104 : decode cX6_readsRow 104 = .ok (.bipush 44, 2) := by decide +kernel
theorem dX6_readsRow_106 : decode cX6_readsRow 106 = .ok (.invokevirtual 73, 3) := by decide +kernel
theorem dX6_readsRow_109 : decode cX6_readsRow 109 = .ok (.istore_n 3, 1) := by decide +kernel
theorem dX6_readsRow_110 : decode cX6_readsRow 110 = .ok (.iinc 5 1, 3) := by decide +kernel
theorem dX6_readsRow_113 : decode cX6_readsRow 113 = .ok (.goto (-38), 3) := by decide +kernel
theorem dX6_readsRow_116 : decode cX6_readsRow 116 = .ok (.iload 4, 2) := by decide +kernel
theorem dX6_readsRow_118 : decode cX6_readsRow 118 = .ok (.istore 5, 2) := by decide +kernel
theorem dX6_readsRow_120 : decode cX6_readsRow 120 = .ok (.iload 5, 2) := by decide +kernel
theorem dX6_readsRow_122 : decode cX6_readsRow 122 = .ok (.iconst 4, 1) := by decide +kernel
theorem dX6_readsRow_123 : decode cX6_readsRow 123 = .ok (.if_icmp .ge 31, 3) := by decide +kernel
theorem dX6_readsRow_126 : decode cX6_readsRow 126 = .ok (.aload_n 0, 1) := by decide +kernel
theorem dX6_readsRow_127 : decode cX6_readsRow 127 = .ok (.getfield 17, 3) := by decide +kernel
theorem dX6_readsRow_130 : decode cX6_readsRow 130 = .ok (.sipush 600, 3) := by decide +kernel
theorem dX6_readsRow_133 : decode cX6_readsRow 133 = .ok (.bipush 6, 2) := by decide +kernel
theorem dX6_readsRow_135 : decode cX6_readsRow 135 = .ok (.aload_n 0, 1) := by decide +kernel
theorem dX6_readsRow_136 : decode cX6_readsRow 136 = .ok (.getfield 50, 3) := by decide +kernel
theorem dX6_readsRow_139 : decode cX6_readsRow 139 = .ok (.imul, 1) := by decide +kernel
theorem dX6_readsRow_140 : decode cX6_readsRow 140 = .ok (.iadd, 1) := by decide +kernel
theorem dX6_readsRow_141 : decode cX6_readsRow 141 = .ok (.iconst 2, 1) := by decide +kernel
theorem dX6_readsRow_142 : decode cX6_readsRow 142 = .ok (.iadd, 1) := by decide +kernel
theorem dX6_readsRow_143 : decode cX6_readsRow 143 = .ok (.iload 5, 2) := by decide +kernel
theorem dX6_readsRow_145 : decode cX6_readsRow 145 = .ok (.iadd, 1) := by decide +kernel
theorem dX6_readsRow_146 : decode cX6_readsRow 146 = .ok (.iconst 0, 1) := by decide +kernel
theorem dX6_readsRow_147 : decode cX6_readsRow 147 = .ok (.iastore, 1) := by decide +kernel
theorem dX6_readsRow_148 : decode cX6_readsRow 148 = .ok (.iinc 5 1, 3) := by decide +kernel
theorem dX6_readsRow_151 : decode cX6_readsRow 151 = .ok (.goto (-31), 3) := by decide +kernel
theorem dX6_readsRow_154 : decode cX6_readsRow 154 = .ok (.iload_n 3, 1) := by decide +kernel
theorem dX6_readsRow_155 : decode cX6_readsRow 155 = .ok (.ireturn, 1) := by decide +kernel
theorem dX6_kindOf_0 : decode cX6_kindOf 0 = .ok (.iconst (-1), 1) := by decide +kernel
theorem dX6_kindOf_1 : decode cX6_kindOf 1 = .ok (.istore_n 1, 1) := by decide +kernel
