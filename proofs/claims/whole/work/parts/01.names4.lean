theorem dX10_piece_7 : decode cX10_piece 7 = .ok (.invokevirtual 160, 3) := by decide +kernel
theorem dX10_piece_10 : decode cX10_piece 10 = .ok (.ifCond .eq 5, 3) := by decide +kernel
theorem dX10_piece_13 : decode cX10_piece 13 = .ok (.iconst (-1), 1) := by decide +kernel
theorem dX10_piece_14 : decode cX10_piece 14 = .ok (.ireturn, 1) := by decide +kernel
theorem dX10_piece_15 : decode cX10_piece 15 = .ok (.aload_n 0, 1) := by decide +kernel
theorem dX10_piece_16 : decode cX10_piece 16 = .ok (.invokevirtual 196, 3) := by decide +kernel
theorem dX10_piece_19 : decode cX10_piece 19 = .ok (.aload_n 0, 1) := by decide +kernel
theorem dX10_piece_20 : decode cX10_piece 20 = .ok (.getfield 63, 3) := by decide +kernel
theorem dX10_piece_23 : decode cX10_piece 23 = .ok (.iload_n 1, 1) := by decide +kernel
theorem dX10_piece_24 : decode cX10_piece 24 = .ok (.iaload, 1) := by decide +kernel
theorem dX10_piece_25 : decode cX10_piece 25 = .ok (.ireturn, 1) := by decide +kernel
theorem dX10_marked_0 : decode cX10_marked 0 = .ok (.iconst 0, 1) := by decide +kernel
theorem dX10_marked_1 : decode cX10_marked 1 = .ok (.istore_n 1, 1) := by decide +kernel
theorem dX10_marked_2 : decode cX10_marked 2 = .ok (.iconst 0, 1) := by decide +kernel
theorem dX10_marked_3 : decode cX10_marked 3 = .ok (.istore_n 2, 1) := by decide +kernel
theorem dX10_marked_4 : decode cX10_marked 4 = .ok (.iload_n 2, 1) := by decide +kernel
theorem dX10_marked_5 : decode cX10_marked 5 = .ok (.aload_n 0, 1) := by decide +kernel
theorem dX10_marked_6 : decode cX10_marked 6 = .ok (.invokevirtual 97, 3) := by decide +kernel
theorem dX10_marked_9 : decode cX10_marked 9 = .ok (.if_icmp .ge 26, 3) := by decide +kernel
theorem dX10_marked_12 : decode cX10_marked 12 = .ok (.iload_n 1, 1) := by decide +kernel
theorem dX10_marked_13 : decode cX10_marked 13 = .ok (.aload_n 0, 1) := by decide +kernel
theorem dX10_marked_14 : decode cX10_marked 14 = .ok (.getfield 60, 3) := by decide +kernel
theorem dX10_marked_17 : decode cX10_marked 17 = .ok (.iload_n 2, 1) := by decide +kernel
theorem dX10_marked_18 : decode cX10_marked 18 = .ok (.baload, 1) := by decide +kernel
theorem dX10_marked_19 : decode cX10_marked 19 = .ok (.ifCond .eq 7, 3) := by decide +kernel
theorem dX10_marked_22 : decode cX10_marked 22 = .ok (.iconst 1, 1) := by decide +kernel
theorem dX10_marked_23 : decode cX10_marked 23 = .ok (.goto 4, 3) := by decide +kernel
theorem dX10_marked_26 : decode cX10_marked 26 = .ok (.iconst 0, 1) := by decide +kernel
theorem dX10_marked_27 : decode cX10_marked 27 = .ok (.iadd, 1) := by decide +kernel
theorem dX10_marked_28 : decode cX10_marked 28 = .ok (.istore_n 1, 1) := by decide +kernel
theorem dX10_marked_29 : decode cX10_marked 29 = .ok (.iinc 2 1, 3) := by decide +kernel
theorem dX10_marked_32 : decode cX10_marked 32 = .ok (.goto (-28), 3) := by decide +kernel
theorem dX10_marked_35 : decode cX10_marked 35 = .ok (.iload_n 1, 1) := by decide +kernel
theorem dX10_marked_36 : decode cX10_marked 36 = .ok (.ireturn, 1) := by decide +kernel
theorem dX10_mark_0 : decode cX10_mark 0 = .ok (.aload_n 0, 1) := by decide +kernel
theorem dX10_mark_1 : decode cX10_mark 1 = .ok (.iconst 0, 1) := by decide +kernel
theorem dX10_mark_2 : decode cX10_mark 2 = .ok (.putfield 94, 3) := by decide +kernel
theorem dX10_mark_5 : decode cX10_mark 5 = .ok (.aload_n 0, 1) := by decide +kernel
theorem dX10_mark_6 : decode cX10_mark 6 = .ok (.iload_n 1, 1) := by decide +kernel
theorem dX10_mark_7 : decode cX10_mark 7 = .ok (.invokevirtual 160, 3) := by decide +kernel
theorem dX10_mark_10 : decode cX10_mark 10 = .ok (.ifCond .eq 5, 3) := by decide +kernel
theorem dX10_mark_13 : decode cX10_mark 13 = .ok (.iconst (-1), 1) := by decide +kernel
theorem dX10_mark_14 : decode cX10_mark 14 = .ok (.ireturn, 1) := by decide +kernel
theorem dX10_mark_15 : decode cX10_mark 15 = .ok (.aload_n 0, 1) := by decide +kernel
theorem dX10_mark_16 : decode cX10_mark 16 = .ok (.getfield 60, 3) := by decide +kernel
theorem dX10_mark_19 : decode cX10_mark 19 = .ok (.iload_n 1, 1) := by decide +kernel
theorem dX10_mark_20 : decode cX10_mark 20 = .ok (.baload, 1) := by decide +kernel
theorem dX10_mark_21 : decode cX10_mark 21 = .ok (.ifCond .eq 7, 3) := by decide +kernel
theorem dX10_mark_24 : decode cX10_mark 24 = .ok (.iconst 1, 1) := by decide +kernel
theorem dX10_mark_25 : decode cX10_mark 25 = .ok (.goto 4, 3) := by decide +kernel
theorem dX10_mark_28 : decode cX10_mark 28 = .ok (.iconst 0, 1) := by decide +kernel
theorem dX10_mark_29 : decode cX10_mark 29 = .ok (.istore_n 3, 1) := by decide +kernel
theorem dX10_mark_30 : decode cX10_mark 30 = .ok (.aload_n 0, 1) := by decide +kernel
theorem dX10_mark_31 : decode cX10_mark 31 = .ok (.getfield 60, 3) := by decide +kernel
theorem dX10_mark_34 : decode cX10_mark 34 = .ok (.iload_n 1, 1) := by decide +kernel
theorem dX10_mark_35 : decode cX10_mark 35 = .ok (.iload_n 2, 1) := by decide +kernel
theorem dX10_mark_36 : decode cX10_mark 36 = .ok (.bastore, 1) := by decide +kernel
theorem dX10_mark_37 : decode cX10_mark 37 = .ok (.iload_n 3, 1) := by decide +kernel
theorem dX10_mark_38 : decode cX10_mark 38 = .ok (.ireturn, 1) := by decide +kernel
theorem dX10_markCell_0 : decode cX10_markCell 0 = .ok (.aload_n 0, 1) := by decide +kernel
theorem dX10_markCell_1 : decode cX10_markCell 1 = .ok (.iconst 0, 1) := by decide +kernel
theorem dX10_markCell_2 : decode cX10_markCell 2 = .ok (.putfield 94, 3) := by decide +kernel
theorem dX10_markCell_5 : decode cX10_markCell 5 = .ok (.iload_n 1, 1) := by decide +kernel
theorem dX10_markCell_6 : decode cX10_markCell 6 = .ok (.i2l, 1) := by decide +kernel
theorem dX10_markCell_7 : decode cX10_markCell 7 = .ok (.lconst 0, 1) := by decide +kernel
theorem dX10_markCell_8 : decode cX10_markCell 8 = .ok (.aload_n 0, 1) := by decide +kernel
theorem dX10_markCell_9 : decode cX10_markCell 9 = .ok (.getfield 7, 3) := by decide +kernel
theorem dX10_markCell_12 : decode cX10_markCell 12 = .ok (.iconst 1, 1) := by decide +kernel
theorem dX10_markCell_13 : decode cX10_markCell 13 = .ok (.isub, 1) := by decide +kernel
theorem dX10_markCell_14 : decode cX10_markCell 14 = .ok (.i2l, 1) := by decide +kernel
theorem dX10_markCell_15 : decode cX10_markCell 15 = .ok (.invokestatic 101, 3) := by decide +kernel
theorem dX10_markCell_18 : decode cX10_markCell 18 = .ok (.ifCond .eq 19, 3) := by decide +kernel
theorem dX10_markCell_21 : decode cX10_markCell 21 = .ok (.iload_n 2, 1) := by decide +kernel
theorem dX10_markCell_22 : decode cX10_markCell 22 = .ok (.i2l, 1) := by decide +kernel
theorem dX10_markCell_23 : decode cX10_markCell 23 = .ok (.lconst 0, 1) := by decide +kernel
theorem dX10_markCell_24 : decode cX10_markCell 24 = .ok (.aload_n 0, 1) := by decide +kernel
theorem dX10_markCell_25 : decode cX10_markCell 25 = .ok (.getfield 7, 3) := by decide +kernel
theorem dX10_markCell_28 : decode cX10_markCell 28 = .ok (.iconst 1, 1) := by decide +kernel
theorem dX10_markCell_29 : decode cX10_markCell 29 = .ok (.isub, 1) := by decide +kernel
theorem dX10_markCell_30 : decode cX10_markCell 30 = .ok (.i2l, 1) := by decide +kernel
theorem dX10_markCell_31 : decode cX10_markCell 31 = .ok (.invokestatic 101, 3) := by decide +kernel
theorem dX10_markCell_34 : decode cX10_markCell 34 = .ok (.ifCond .ne 6, 3) := by decide +kernel
theorem dX10_markCell_37 : decode cX10_markCell 37 = .ok (.bipush (-2), 2) := by decide +kernel
theorem dX10_markCell_39 : decode cX10_markCell 39 = .ok (.ireturn, 1) := by decide +kernel
theorem dX10_markCell_40 : decode cX10_markCell 40 = .ok (.iconst 0, 1) := by decide +kernel
theorem dX10_markCell_41 : decode cX10_markCell 41 = .ok (.istore 4, 2) := by decide +kernel
theorem dX10_markCell_43 : decode cX10_markCell 43 = .ok (.iload 4, 2) := by decide +kernel
theorem dX10_markCell_45 : decode cX10_markCell 45 = .ok (.iconst 4, 1) := by decide +kernel
theorem dX10_markCell_46 : decode cX10_markCell 46 = .ok (.if_icmp .ge 28, 3) := by decide +kernel
theorem dX10_markCell_49 : decode cX10_markCell 49 = .ok (.aload_n 0, 1) := by decide +kernel
theorem dX10_markCell_50 : decode cX10_markCell 50 = .ok (.getfield 60, 3) := by decide +kernel
theorem dX10_markCell_53 : decode cX10_markCell 53 = .ok (.iconst 4, 1) := by decide +kernel
theorem dX10_markCell_54 : decode cX10_markCell 54 = .ok (.iload_n 2, 1) := by decide +kernel
theorem dX10_markCell_55 : decode cX10_markCell 55 = .ok (.aload_n 0, 1) := by decide +kernel
theorem dX10_markCell_56 : decode cX10_markCell 56 = .ok (.getfield 7, 3) := by decide +kernel
theorem dX10_markCell_59 : decode cX10_markCell 59 = .ok (.imul, 1) := by decide +kernel
theorem dX10_markCell_60 : decode cX10_markCell 60 = .ok (.iload_n 1, 1) := by decide +kernel
theorem dX10_markCell_61 : decode cX10_markCell 61 = .ok (.iadd, 1) := by decide +kernel
theorem dX10_markCell_62 : decode cX10_markCell 62 = .ok (.imul, 1) := by decide +kernel
theorem dX10_markCell_63 : decode cX10_markCell 63 = .ok (.iload 4, 2) := by decide +kernel
theorem dX10_markCell_65 : decode cX10_markCell 65 = .ok (.iadd, 1) := by decide +kernel
theorem dX10_markCell_66 : decode cX10_markCell 66 = .ok (.iload_n 3, 1) := by decide +kernel
theorem dX10_markCell_67 : decode cX10_markCell 67 = .ok (.bastore, 1) := by decide +kernel
theorem dX10_markCell_68 : decode cX10_markCell 68 = .ok (.iinc 4 1, 3) := by decide +kernel
theorem dX10_markCell_71 : decode cX10_markCell 71 = .ok (.goto (-28), 3) := by decide +kernel
theorem dX10_markCell_74 : decode cX10_markCell 74 = .ok (.aload_n 0, 1) := by decide +kernel
theorem dX10_markCell_75 : decode cX10_markCell 75 = .ok (.invokevirtual 199, 3) := by decide +kernel
theorem dX10_markCell_78 : decode cX10_markCell 78 = .ok (.ireturn, 1) := by decide +kernel
theorem dX10_take_0 : decode cX10_take 0 = .ok (.aload_n 0, 1) := by decide +kernel
theorem dX10_take_1 : decode cX10_take 1 = .ok (.iconst 0, 1) := by decide +kernel
theorem dX10_take_2 : decode cX10_take 2 = .ok (.putfield 94, 3) := by decide +kernel
theorem dX10_take_5 : decode cX10_take 5 = .ok (.aload_n 0, 1) := by decide +kernel
theorem dX10_take_6 : decode cX10_take 6 = .ok (.getfield 114, 3) := by decide +kernel
theorem dX10_take_9 : decode cX10_take 9 = .ok (.ifCond .ne 6, 3) := by decide +kernel
theorem dX10_take_12 : decode cX10_take 12 = .ok (.bipush (-3), 2) := by decide +kernel
theorem dX10_take_14 : decode cX10_take 14 = .ok (.ireturn, 1) := by decide +kernel
theorem dX10_take_15 : decode cX10_take 15 = .ok (.iconst 0, 1) := by decide +kernel
theorem dX10_take_16 : decode cX10_take 16 = .ok (.istore_n 1, 1) := by decide +kernel
theorem dX10_take_17 : decode cX10_take 17 = .ok (.iload_n 1, 1) := by decide +kernel
theorem dX10_take_18 : decode cX10_take 18 = .ok (.aload_n 0, 1) := by decide +kernel
theorem dX10_take_19 : decode cX10_take 19 = .ok (.invokevirtual 97, 3) := by decide +kernel
theorem dX10_take_22 : decode cX10_take 22 = .ok (.if_icmp .ge 21, 3) := by decide +kernel
theorem dX10_take_25 : decode cX10_take 25 = .ok (.aload_n 0, 1) := by decide +kernel
theorem dX10_take_26 : decode cX10_take 26 = .ok (.getfield 60, 3) := by decide +kernel
theorem dX10_take_29 : decode cX10_take 29 = .ok (.iload_n 1, 1) := by decide +kernel
theorem dX10_take_30 : decode cX10_take 30 = .ok (.aload_n 0, 1) := by decide +kernel
theorem dX10_take_31 : decode cX10_take 31 = .ok (.getfield 57, 3) := by decide +kernel
theorem dX10_take_34 : decode cX10_take 34 = .ok (.iload_n 1, 1) := by decide +kernel
theorem dX10_take_35 : decode cX10_take 35 = .ok (.baload, 1) := by decide +kernel
theorem dX10_take_36 : decode cX10_take 36 = .ok (.bastore, 1) := by decide +kernel
theorem dX10_take_37 : decode cX10_take 37 = .ok (.iinc 1 1, 3) := by decide +kernel
theorem dX10_take_40 : decode cX10_take 40 = .ok (.goto (-23), 3) := by decide +kernel
theorem dX10_take_43 : decode cX10_take 43 = .ok (.aload_n 0, 1) := by decide +kernel
theorem dX10_take_44 : decode cX10_take 44 = .ok (.invokevirtual 199, 3) := by decide +kernel
theorem dX10_take_47 : decode cX10_take 47 = .ok (.ireturn, 1) := by decide +kernel
theorem dX10_same_0 : decode cX10_same 0 = .ok (.aload_n 0, 1) := by decide +kernel
theorem dX10_same_1 : decode cX10_same 1 = .ok (.iconst 0, 1) := by decide +kernel
theorem dX10_same_2 : decode cX10_same 2 = .ok (.putfield 94, 3) := by decide +kernel
theorem dX10_same_5 : decode cX10_same 5 = .ok (.iconst 1, 1) := by decide +kernel
theorem dX10_same_6 : decode cX10_same 6 = .ok (.istore_n 1, 1) := by decide +kernel
theorem dX10_same_7 : decode cX10_same 7 = .ok (.iconst 0, 1) := by decide +kernel
theorem dX10_same_8 : decode cX10_same 8 = .ok (.istore_n 2, 1) := by decide +kernel
theorem dX10_same_9 : decode cX10_same 9 = .ok (.iload_n 2, 1) := by decide +kernel
theorem dX10_same_10 : decode cX10_same 10 = .ok (.aload_n 0, 1) := by decide +kernel
theorem dX10_same_11 : decode cX10_same 11 = .ok (.invokevirtual 97, 3) := by decide +kernel
theorem dX10_same_14 : decode cX10_same 14 = .ok (.if_icmp .ge 34, 3) := by decide +kernel
theorem dX10_same_17 : decode cX10_same 17 = .ok (.iload_n 1, 1) := by decide +kernel
theorem dX10_same_18 : decode cX10_same 18 = .ok (.ifCond .eq 22, 3) := by decide +kernel
theorem dX10_same_21 : decode cX10_same 21 = .ok (.aload_n 0, 1) := by decide +kernel
theorem dX10_same_22 : decode cX10_same 22 = .ok (.getfield 60, 3) := by decide +kernel
theorem dX10_same_25 : decode cX10_same 25 = .ok (.iload_n 2, 1) := by decide +kernel
theorem dX10_same_26 : decode cX10_same 26 = .ok (.baload, 1) := by decide +kernel
theorem dX10_same_27 : decode cX10_same 27 = .ok (.aload_n 0, 1) := by decide +kernel
theorem dX10_same_28 : decode cX10_same 28 = .ok (.getfield 57, 3) := by decide +kernel
theorem dX10_same_31 : decode cX10_same 31 = .ok (.iload_n 2, 1) := by decide +kernel
theorem dX10_same_32 : decode cX10_same 32 = .ok (.baload, 1) := by decide +kernel
theorem dX10_same_33 : decode cX10_same 33 = .ok (.if_icmp .ne 7, 3) := by decide +kernel
theorem dX10_same_36 : decode cX10_same 36 = .ok (.iconst 1, 1) := by decide +kernel
theorem dX10_same_37 : decode cX10_same 37 = .ok (.goto 4, 3) := by decide +kernel
theorem dX10_same_40 : decode cX10_same 40 = .ok (.iconst 0, 1) := by decide +kernel
theorem dX10_same_41 : decode cX10_same 41 = .ok (.istore_n 1, 1) := by decide +kernel
theorem dX10_same_42 : decode cX10_same 42 = .ok (.iinc 2 1, 3) := by decide +kernel
theorem dX10_same_45 : decode cX10_same 45 = .ok (.goto (-36), 3) := by decide +kernel
theorem dX10_same_48 : decode cX10_same 48 = .ok (.iload_n 1, 1) := by decide +kernel
theorem dX10_same_49 : decode cX10_same 49 = .ok (.ifCond .eq 7, 3) := by decide +kernel
theorem dX10_same_52 : decode cX10_same 52 = .ok (.iconst 1, 1) := by decide +kernel
theorem dX10_same_53 : decode cX10_same 53 = .ok (.goto 4, 3) := by decide +kernel
theorem dX10_same_56 : decode cX10_same 56 = .ok (.iconst 0, 1) := by decide +kernel
theorem dX10_same_57 : decode cX10_same 57 = .ok (.ireturn, 1) := by decide +kernel
theorem dX10_isMirror_0 : decode cX10_isMirror 0 = .ok (.iconst 1, 1) := by decide +kernel
theorem dX10_isMirror_1 : decode cX10_isMirror 1 = .ok (.istore_n 3, 1) := by decide +kernel
theorem dX10_isMirror_2 : decode cX10_isMirror 2 = .ok (.iconst 0, 1) := by decide +kernel
theorem dX10_isMirror_3 : decode cX10_isMirror 3 = .ok (.istore 4, 2) := by decide +kernel
theorem dX10_isMirror_5 : decode cX10_isMirror 5 = .ok (.iload 4, 2) := by decide +kernel
theorem dX10_isMirror_7 : decode cX10_isMirror 7 = .ok (.aload_n 0, 1) := by decide +kernel
theorem dX10_isMirror_8 : decode cX10_isMirror 8 = .ok (.invokevirtual 97, 3) := by decide +kernel
theorem dX10_isMirror_11 : decode cX10_isMirror 11 = .ok (.if_icmp .ge 121, 3) := by decide +kernel
theorem dX10_isMirror_14 : decode cX10_isMirror 14 = .ok (.iload_n 3, 1) := by decide +kernel
theorem dX10_isMirror_15 : decode cX10_isMirror 15 = .ok (.ifCond .eq 117, 3) := by decide +kernel
theorem dX10_isMirror_18 : decode cX10_isMirror 18 = .ok (.aload_n 0, 1) := by decide +kernel
theorem dX10_isMirror_19 : decode cX10_isMirror 19 = .ok (.iload_n 1, 1) := by decide +kernel
theorem dX10_isMirror_20 : decode cX10_isMirror 20 = .ok (.iload_n 2, 1) := by decide +kernel
theorem dX10_isMirror_21 : decode cX10_isMirror 21 = .ok (.iload 4, 2) := by decide +kernel
theorem dX10_isMirror_23 : decode cX10_isMirror 23 = .ok (.iconst 4, 1) := by decide +kernel
theorem dX10_isMirror_24 : decode cX10_isMirror 24 = .ok (.idiv, 1) := by decide +kernel
theorem dX10_isMirror_25 : decode cX10_isMirror 25 = .ok (.aload_n 0, 1) := by decide +kernel
theorem dX10_isMirror_26 : decode cX10_isMirror 26 = .ok (.getfield 7, 3) := by decide +kernel
theorem dX10_isMirror_29 : decode cX10_isMirror 29 = .ok (.irem, 1) := by decide +kernel
theorem dX10_isMirror_30 : decode cX10_isMirror 30 = .ok (.iload 4, 2) := by decide +kernel
theorem dX10_isMirror_32 : decode cX10_isMirror 32 = .ok (.iconst 4, 1) := by decide +kernel
theorem dX10_isMirror_33 : decode cX10_isMirror 33 = .ok (.idiv, 1) := by decide +kernel
theorem dX10_isMirror_34 : decode cX10_isMirror 34 = .ok (.aload_n 0, 1) := by decide +kernel
theorem dX10_isMirror_35 : decode cX10_isMirror 35 = .ok (.getfield 7, 3) := by decide +kernel
theorem dX10_isMirror_38 : decode cX10_isMirror 38 = .ok (.idiv, 1) := by decide +kernel
theorem dX10_isMirror_39 : decode cX10_isMirror 39 = .ok (.iload 4, 2) := by decide +kernel
theorem dX10_isMirror_41 : decode cX10_isMirror 41 = .ok (.iconst 4, 1) := by decide +kernel
theorem dX10_isMirror_42 : decode cX10_isMirror 42 = .ok (.irem, 1) := by decide +kernel
theorem dX10_isMirror_43 : decode cX10_isMirror 43 = .ok (.invokevirtual 153, 3) := by decide +kernel
theorem dX10_isMirror_46 : decode cX10_isMirror 46 = .ok (.aload_n 0, 1) := by decide +kernel
theorem dX10_isMirror_47 : decode cX10_isMirror 47 = .ok (.getfield 122, 3) := by decide +kernel
theorem dX10_isMirror_50 : decode cX10_isMirror 50 = .ok (.i2l, 1) := by decide +kernel
theorem dX10_isMirror_51 : decode cX10_isMirror 51 = .ok (.lconst 0, 1) := by decide +kernel
theorem dX10_isMirror_52 : decode cX10_isMirror 52 = .ok (.aload_n 0, 1) := by decide +kernel
theorem dX10_isMirror_53 : decode cX10_isMirror 53 = .ok (.getfield 7, 3) := by decide +kernel
theorem dX10_isMirror_56 : decode cX10_isMirror 56 = .ok (.iconst 1, 1) := by decide +kernel
theorem dX10_isMirror_57 : decode cX10_isMirror 57 = .ok (.isub, 1) := by decide +kernel
theorem dX10_isMirror_58 : decode cX10_isMirror 58 = .ok (.i2l, 1) := by decide +kernel
theorem dX10_isMirror_59 : decode cX10_isMirror 59 = .ok (.invokestatic 101, 3) := by decide +kernel
theorem dX10_isMirror_62 : decode cX10_isMirror 62 = .ok (.ifCond .eq 62, 3) := by decide +kernel
theorem dX10_isMirror_65 : decode cX10_isMirror 65 = .ok (.aload_n 0, 1) := by decide +kernel
theorem dX10_isMirror_66 : decode cX10_isMirror 66 = .ok (.getfield 125, 3) := by decide +kernel
theorem dX10_isMirror_69 : decode cX10_isMirror 69 = .ok (.i2l, 1) := by decide +kernel
theorem dX10_isMirror_70 : decode cX10_isMirror 70 = .ok (.lconst 0, 1) := by decide +kernel
theorem dX10_isMirror_71 : decode cX10_isMirror 71 = .ok (.aload_n 0, 1) := by decide +kernel
theorem dX10_isMirror_72 : decode cX10_isMirror 72 = .ok (.getfield 7, 3) := by decide +kernel
theorem dX10_isMirror_75 : decode cX10_isMirror 75 = .ok (.iconst 1, 1) := by decide +kernel
theorem dX10_isMirror_76 : decode cX10_isMirror 76 = .ok (.isub, 1) := by decide +kernel
theorem dX10_isMirror_77 : decode cX10_isMirror 77 = .ok (.i2l, 1) := by decide +kernel
theorem dX10_isMirror_78 : decode cX10_isMirror 78 = .ok (.invokestatic 101, 3) := by decide +kernel
theorem dX10_isMirror_81 : decode cX10_isMirror 81 = .ok (.ifCond .eq 43, 3) := by decide +kernel
theorem dX10_isMirror_84 : decode cX10_isMirror 84 = .ok (.aload_n 0, 1) := by decide +kernel
theorem dX10_isMirror_85 : decode cX10_isMirror 85 = .ok (.getfield 60, 3) := by decide +kernel
theorem dX10_isMirror_88 : decode cX10_isMirror 88 = .ok (.iconst 4, 1) := by decide +kernel
theorem dX10_isMirror_89 : decode cX10_isMirror 89 = .ok (.aload_n 0, 1) := by decide +kernel
theorem dX10_isMirror_90 : decode cX10_isMirror 90 = .ok (.getfield 125, 3) := by decide +kernel
theorem dX10_isMirror_93 : decode cX10_isMirror 93 = .ok (.aload_n 0, 1) := by decide +kernel
theorem dX10_isMirror_94 : decode cX10_isMirror 94 = .ok (.getfield 7, 3) := by decide +kernel
theorem dX10_isMirror_97 : decode cX10_isMirror 97 = .ok (.imul, 1) := by decide +kernel
theorem dX10_isMirror_98 : decode cX10_isMirror 98 = .ok (.aload_n 0, 1) := by decide +kernel
theorem dX10_isMirror_99 : decode cX10_isMirror 99 = .ok (.getfield 122, 3) := by decide +kernel
theorem dX10_isMirror_102 : decode cX10_isMirror 102 = .ok (.iadd, 1) := by decide +kernel
theorem dX10_isMirror_103 : decode cX10_isMirror 103 = .ok (.imul, 1) := by decide +kernel
theorem dX10_isMirror_104 : decode cX10_isMirror 104 = .ok (.aload_n 0, 1) := by decide +kernel
theorem dX10_isMirror_105 : decode cX10_isMirror 105 = .ok (.getfield 128, 3) := by decide +kernel
theorem dX10_isMirror_108 : decode cX10_isMirror 108 = .ok (.iadd, 1) := by decide +kernel
theorem dX10_isMirror_109 : decode cX10_isMirror 109 = .ok (.baload, 1) := by decide +kernel
theorem dX10_isMirror_110 : decode cX10_isMirror 110 = .ok (.aload_n 0, 1) := by decide +kernel
theorem dX10_isMirror_111 : decode cX10_isMirror 111 = .ok (.getfield 60, 3) := by decide +kernel
theorem dX10_isMirror_114 : decode cX10_isMirror 114 = .ok (.iload 4, 2) := by decide +kernel
theorem dX10_isMirror_116 : decode cX10_isMirror 116 = .ok (.baload, 1) := by decide +kernel
theorem dX10_isMirror_117 : decode cX10_isMirror 117 = .ok (.if_icmp .ne 7, 3) := by decide +kernel
theorem dX10_isMirror_120 : decode cX10_isMirror 120 = .ok (.iconst 1, 1) := by decide +kernel
theorem dX10_isMirror_121 : decode cX10_isMirror 121 = .ok (.goto 4, 3) := by decide +kernel
theorem dX10_isMirror_124 : decode cX10_isMirror 124 = .ok (.iconst 0, 1) := by decide +kernel
theorem dX10_isMirror_125 : decode cX10_isMirror 125 = .ok (.istore_n 3, 1) := by decide +kernel
theorem dX10_isMirror_126 : decode cX10_isMirror 126 = .ok (.iinc 4 1, 3) := by decide +kernel
theorem dX10_isMirror_129 : decode cX10_isMirror 129 = .ok (.goto (-124), 3) := by decide +kernel
theorem dX10_isMirror_132 : decode cX10_isMirror 132 = .ok (.iload_n 3, 1) := by decide +kernel
theorem dX10_isMirror_133 : decode cX10_isMirror 133 = .ok (.ireturn, 1) := by decide +kernel
theorem dX10_mirror_0 : decode cX10_mirror 0 = .ok (.aload_n 0, 1) := by decide +kernel
theorem dX10_mirror_1 : decode cX10_mirror 1 = .ok (.iconst 0, 1) := by decide +kernel
theorem dX10_mirror_2 : decode cX10_mirror 2 = .ok (.putfield 94, 3) := by decide +kernel
theorem dX10_mirror_5 : decode cX10_mirror 5 = .ok (.iload_n 1, 1) := by decide +kernel
theorem dX10_mirror_6 : decode cX10_mirror 6 = .ok (.iload_n 2, 1) := by decide +kernel
theorem dX10_mirror_7 : decode cX10_mirror 7 = .ok (.invokestatic 138, 3) := by decide +kernel
theorem dX10_mirror_10 : decode cX10_mirror 10 = .ok (.ifCond .eq 8, 3) := by decide +kernel
theorem dX10_mirror_13 : decode cX10_mirror 13 = .ok (.bipush (-2), 2) := by decide +kernel
theorem dX10_mirror_15 : decode cX10_mirror 15 = .ok (.goto 17, 3) := by decide +kernel
theorem dX10_mirror_18 : decode cX10_mirror 18 = .ok (.aload_n 0, 1) := by decide +kernel
theorem dX10_mirror_19 : decode cX10_mirror 19 = .ok (.iload_n 1, 1) := by decide +kernel
theorem dX10_mirror_20 : decode cX10_mirror 20 = .ok (.iload_n 2, 1) := by decide +kernel
theorem dX10_mirror_21 : decode cX10_mirror 21 = .ok (.invokevirtual 202, 3) := by decide +kernel
theorem dX10_mirror_24 : decode cX10_mirror 24 = .ok (.ifCond .eq 7, 3) := by decide +kernel
theorem dX10_mirror_27 : decode cX10_mirror 27 = .ok (.iconst 1, 1) := by decide +kernel
theorem dX10_mirror_28 : decode cX10_mirror 28 = .ok (.goto 4, 3) := by decide +kernel
theorem dX10_mirror_31 : decode cX10_mirror 31 = .ok (.iconst 0, 1) := by decide +kernel
theorem dX10_mirror_32 : decode cX10_mirror 32 = .ok (.ireturn, 1) := by decide +kernel
theorem dX10_mirrors_0 : decode cX10_mirrors 0 = .ok (.aload_n 0, 1) := by decide +kernel
theorem dX10_mirrors_1 : decode cX10_mirrors 1 = .ok (.iconst 0, 1) := by decide +kernel
theorem dX10_mirrors_2 : decode cX10_mirrors 2 = .ok (.putfield 94, 3) := by decide +kernel
theorem dX10_mirrors_5 : decode cX10_mirrors 5 = .ok (.iconst 0, 1) := by decide +kernel
theorem dX10_mirrors_6 : decode cX10_mirrors 6 = .ok (.istore_n 1, 1) := by decide +kernel
theorem dX10_mirrors_7 : decode cX10_mirrors 7 = .ok (.iconst 0, 1) := by decide +kernel
theorem dX10_mirrors_8 : decode cX10_mirrors 8 = .ok (.istore_n 2, 1) := by decide +kernel
theorem dX10_mirrors_9 : decode cX10_mirrors 9 = .ok (.iload_n 2, 1) := by decide +kernel
theorem dX10_mirrors_10 : decode cX10_mirrors 10 = .ok (.iconst 4, 1) := by decide +kernel
theorem dX10_mirrors_11 : decode cX10_mirrors 11 = .ok (.if_icmp .ge 41, 3) := by decide +kernel
theorem dX10_mirrors_14 : decode cX10_mirrors 14 = .ok (.bipush (-24), 2) := by decide +kernel
theorem dX10_mirrors_16 : decode cX10_mirrors 16 = .ok (.istore_n 3, 1) := by decide +kernel
theorem dX10_mirrors_17 : decode cX10_mirrors 17 = .ok (.iload_n 3, 1) := by decide +kernel
theorem dX10_mirrors_18 : decode cX10_mirrors 18 = .ok (.bipush 48, 2) := by decide +kernel
theorem dX10_mirrors_20 : decode cX10_mirrors 20 = .ok (.if_icmp .gt 26, 3) := by decide +kernel
theorem dX10_mirrors_23 : decode cX10_mirrors 23 = .ok (.iload_n 1, 1) := by decide +kernel
theorem dX10_mirrors_24 : decode cX10_mirrors 24 = .ok (.aload_n 0, 1) := by decide +kernel
theorem dX10_mirrors_25 : decode cX10_mirrors 25 = .ok (.iload_n 2, 1) := by decide +kernel
theorem dX10_mirrors_26 : decode cX10_mirrors 26 = .ok (.iload_n 3, 1) := by decide +kernel
theorem dX10_mirrors_27 : decode cX10_mirrors 27 = .ok (.invokevirtual 202, 3) := by decide +kernel
theorem dX10_mirrors_30 : decode cX10_mirrors 30 = .ok (.ifCond .eq 7, 3) := by decide +kernel
theorem dX10_mirrors_33 : decode cX10_mirrors 33 = .ok (.iconst 1, 1) := by decide +kernel
theorem dX10_mirrors_34 : decode cX10_mirrors 34 = .ok (.goto 4, 3) := by decide +kernel
theorem dX10_mirrors_37 : decode cX10_mirrors 37 = .ok (.iconst 0, 1) := by decide +kernel
theorem dX10_mirrors_38 : decode cX10_mirrors 38 = .ok (.iadd, 1) := by decide +kernel
theorem dX10_mirrors_39 : decode cX10_mirrors 39 = .ok (.istore_n 1, 1) := by decide +kernel
theorem dX10_mirrors_40 : decode cX10_mirrors 40 = .ok (.iinc 3 1, 3) := by decide +kernel
theorem dX10_mirrors_43 : decode cX10_mirrors 43 = .ok (.goto (-26), 3) := by decide +kernel
theorem dX10_mirrors_46 : decode cX10_mirrors 46 = .ok (.iinc 2 1, 3) := by decide +kernel
theorem dX10_mirrors_49 : decode cX10_mirrors 49 = .ok (.goto (-40), 3) := by decide +kernel
theorem dX10_mirrors_52 : decode cX10_mirrors 52 = .ok (.iload_n 1, 1) := by decide +kernel
theorem dX10_mirrors_53 : decode cX10_mirrors 53 = .ok (.ireturn, 1) := by decide +kernel
theorem dX10_measure_0 : decode cX10_measure 0 = .ok (.iconst 0, 1) := by decide +kernel
theorem dX10_measure_1 : decode cX10_measure 1 = .ok (.istore_n 2, 1) := by decide +kernel
theorem dX10_measure_2 : decode cX10_measure 2 = .ok (.iload_n 2, 1) := by decide +kernel
theorem dX10_measure_3 : decode cX10_measure 3 = .ok (.iconst 4, 1) := by decide +kernel
theorem dX10_measure_4 : decode cX10_measure 4 = .ok (.if_icmp .ge 171, 3) := by decide +kernel
theorem dX10_measure_7 : decode cX10_measure 7 = .ok (.aload_n 0, 1) := by decide +kernel
theorem dX10_measure_8 : decode cX10_measure 8 = .ok (.getfield 78, 3) := by decide +kernel
theorem dX10_measure_11 : decode cX10_measure 11 = .ok (.iconst 4, 1) := by decide +kernel
theorem dX10_measure_12 : decode cX10_measure 12 = .ok (.iload_n 1, 1) := by decide +kernel
theorem dX10_measure_13 : decode cX10_measure 13 = .ok (.imul, 1) := by decide +kernel
theorem dX10_measure_14 : decode cX10_measure 14 = .ok (.iload_n 2, 1) := by decide +kernel
theorem dX10_measure_15 : decode cX10_measure 15 = .ok (.iadd, 1) := by decide +kernel
theorem dX10_measure_16 : decode cX10_measure 16 = .ok (.ldc 205, 2) := by decide +kernel
theorem dX10_measure_18 : decode cX10_measure 18 = .ok (.iastore, 1) := by decide +kernel
theorem dX10_measure_19 : decode cX10_measure 19 = .ok (.aload_n 0, 1) := by decide +kernel
theorem dX10_measure_20 : decode cX10_measure 20 = .ok (.getfield 81, 3) := by decide +kernel
theorem dX10_measure_23 : decode cX10_measure 23 = .ok (.iconst 4, 1) := by decide +kernel
theorem dX10_measure_24 : decode cX10_measure 24 = .ok (.iload_n 1, 1) := by decide +kernel
theorem dX10_measure_25 : decode cX10_measure 25 = .ok (.imul, 1) := by decide +kernel
theorem dX10_measure_26 : decode cX10_measure 26 = .ok (.iload_n 2, 1) := by decide +kernel
theorem dX10_measure_27 : decode cX10_measure 27 = .ok (.iadd, 1) := by decide +kernel
theorem dX10_measure_28 : decode cX10_measure 28 = .ok (.ldc 206, 2) := by decide +kernel
theorem dX10_measure_30 : decode cX10_measure 30 = .ok (.iastore, 1) := by decide +kernel
theorem dX10_measure_31 : decode cX10_measure 31 = .ok (.iconst 0, 1) := by decide +kernel
theorem dX10_measure_32 : decode cX10_measure 32 = .ok (.istore_n 3, 1) := by decide +kernel
theorem dX10_measure_33 : decode cX10_measure 33 = .ok (.iload_n 3, 1) := by decide +kernel
theorem dX10_measure_34 : decode cX10_measure 34 = .ok (.aload_n 0, 1) := by decide +kernel
theorem dX10_measure_35 : decode cX10_measure 35 = .ok (.invokevirtual 97, 3) := by decide +kernel
theorem dX10_measure_38 : decode cX10_measure 38 = .ok (.if_icmp .ge 131, 3) := by decide +kernel
theorem dX10_measure_41 : decode cX10_measure 41 = .ok (.iload_n 2, 1) := by decide +kernel
theorem dX10_measure_42 : decode cX10_measure 42 = .ok (.aload_n 0, 1) := by decide +kernel
theorem dX10_measure_43 : decode cX10_measure 43 = .ok (.getfield 66, 3) := by decide +kernel
theorem dX10_measure_46 : decode cX10_measure 46 = .ok (.sipush 144, 3) := by decide +kernel
theorem dX10_measure_49 : decode cX10_measure 49 = .ok (.iload_n 1, 1) := by decide +kernel
theorem dX10_measure_50 : decode cX10_measure 50 = .ok (.imul, 1) := by decide +kernel
theorem dX10_measure_51 : decode cX10_measure 51 = .ok (.iload_n 3, 1) := by decide +kernel
theorem dX10_measure_52 : decode cX10_measure 52 = .ok (.iadd, 1) := by decide +kernel
theorem dX10_measure_53 : decode cX10_measure 53 = .ok (.iaload, 1) := by decide +kernel
theorem dX10_measure_54 : decode cX10_measure 54 = .ok (.aload_n 0, 1) := by decide +kernel
theorem dX10_measure_55 : decode cX10_measure 55 = .ok (.getfield 69, 3) := by decide +kernel
theorem dX10_measure_58 : decode cX10_measure 58 = .ok (.sipush 144, 3) := by decide +kernel
theorem dX10_measure_61 : decode cX10_measure 61 = .ok (.iload_n 1, 1) := by decide +kernel
theorem dX10_measure_62 : decode cX10_measure 62 = .ok (.imul, 1) := by decide +kernel
theorem dX10_measure_63 : decode cX10_measure 63 = .ok (.iload_n 3, 1) := by decide +kernel
theorem dX10_measure_64 : decode cX10_measure 64 = .ok (.iadd, 1) := by decide +kernel
theorem dX10_measure_65 : decode cX10_measure 65 = .ok (.iaload, 1) := by decide +kernel
theorem dX10_measure_66 : decode cX10_measure 66 = .ok (.aload_n 0, 1) := by decide +kernel
theorem dX10_measure_67 : decode cX10_measure 67 = .ok (.getfield 72, 3) := by decide +kernel
theorem dX10_measure_70 : decode cX10_measure 70 = .ok (.sipush 144, 3) := by decide +kernel
theorem dX10_measure_73 : decode cX10_measure 73 = .ok (.iload_n 1, 1) := by decide +kernel
theorem dX10_measure_74 : decode cX10_measure 74 = .ok (.imul, 1) := by decide +kernel
theorem dX10_measure_75 : decode cX10_measure 75 = .ok (.iload_n 3, 1) := by decide +kernel
theorem dX10_measure_76 : decode cX10_measure 76 = .ok (.iadd, 1) := by decide +kernel
theorem dX10_measure_77 : decode cX10_measure 77 = .ok (.iaload, 1) := by decide +kernel
theorem dX10_measure_78 : decode cX10_measure 78 = .ok (.invokestatic 118, 3) := by decide +kernel
theorem dX10_measure_81 : decode cX10_measure 81 = .ok (.istore 4, 2) := by decide +kernel
theorem dX10_measure_83 : decode cX10_measure 83 = .ok (.aload_n 0, 1) := by decide +kernel
theorem dX10_measure_84 : decode cX10_measure 84 = .ok (.getfield 78, 3) := by decide +kernel
theorem dX10_measure_87 : decode cX10_measure 87 = .ok (.iconst 4, 1) := by decide +kernel
theorem dX10_measure_88 : decode cX10_measure 88 = .ok (.iload_n 1, 1) := by decide +kernel
theorem dX10_measure_89 : decode cX10_measure 89 = .ok (.imul, 1) := by decide +kernel
theorem dX10_measure_90 : decode cX10_measure 90 = .ok (.iload_n 2, 1) := by decide +kernel
theorem dX10_measure_91 : decode cX10_measure 91 = .ok (.iadd, 1) := by decide +kernel
theorem dX10_measure_92 : decode cX10_measure 92 = .ok (.iload 4, 2) := by decide +kernel
theorem dX10_measure_94 : decode cX10_measure 94 = .ok (.aload_n 0, 1) := by decide +kernel
theorem dX10_measure_95 : decode cX10_measure 95 = .ok (.getfield 78, 3) := by decide +kernel
theorem dX10_measure_98 : decode cX10_measure 98 = .ok (.iconst 4, 1) := by decide +kernel
theorem dX10_measure_99 : decode cX10_measure 99 = .ok (.iload_n 1, 1) := by decide +kernel
theorem dX10_measure_100 : decode cX10_measure 100 = .ok (.imul, 1) := by decide +kernel
theorem dX10_measure_101 : decode cX10_measure 101 = .ok (.iload_n 2, 1) := by decide +kernel
theorem dX10_measure_102 : decode cX10_measure 102 = .ok (.iadd, 1) := by decide +kernel
theorem dX10_measure_103 : decode cX10_measure 103 = .ok (.iaload, 1) := by decide +kernel
theorem dX10_measure_104 : decode cX10_measure 104 = .ok (.if_icmp .ge 8, 3) := by decide +kernel
theorem dX10_measure_107 : decode cX10_measure 107 = .ok (.iload 4, 2) := by decide +kernel
theorem dX10_measure_109 : decode cX10_measure 109 = .ok (.goto 13, 3) := by decide +kernel
theorem dX10_measure_112 : decode cX10_measure 112 = .ok (.aload_n 0, 1) := by decide +kernel
theorem dX10_measure_113 : decode cX10_measure 113 = .ok (.getfield 78, 3) := by decide +kernel
theorem dX10_measure_116 : decode cX10_measure 116 = .ok (.iconst 4, 1) := by decide +kernel
theorem dX10_measure_117 : decode cX10_measure 117 = .ok (.iload_n 1, 1) := by decide +kernel
theorem dX10_measure_118 : decode cX10_measure 118 = .ok (.imul, 1) := by decide +kernel
theorem dX10_measure_119 : decode cX10_measure 119 = .ok (.iload_n 2, 1) := by decide +kernel
theorem dX10_measure_120 : decode cX10_measure 120 = .ok (.iadd, 1) := by decide +kernel
theorem dX10_measure_121 : decode cX10_measure 121 = .ok (.iaload, 1) := by decide +kernel
theorem dX10_measure_122 : decode cX10_measure 122 = .ok (.iastore, 1) := by decide +kernel
theorem dX10_measure_123 : decode cX10_measure 123 = .ok (.aload_n 0, 1) := by decide +kernel
theorem dX10_measure_124 : decode cX10_measure 124 = .ok (.getfield 81, 3) := by decide +kernel
theorem dX10_measure_127 : decode cX10_measure 127 = .ok (.iconst 4, 1) := by decide +kernel
theorem dX10_measure_128 : decode cX10_measure 128 = .ok (.iload_n 1, 1) := by decide +kernel
theorem dX10_measure_129 : decode cX10_measure 129 = .ok (.imul, 1) := by decide +kernel
theorem dX10_measure_130 : decode cX10_measure 130 = .ok (.iload_n 2, 1) := by decide +kernel
theorem dX10_measure_131 : decode cX10_measure 131 = .ok (.iadd, 1) := by decide +kernel
theorem dX10_measure_132 : decode cX10_measure 132 = .ok (.iload 4, 2) := by decide +kernel
theorem dX10_measure_134 : decode cX10_measure 134 = .ok (.aload_n 0, 1) := by decide +kernel
theorem dX10_measure_135 : decode cX10_measure 135 = .ok (.getfield 81, 3) := by decide +kernel
theorem dX10_measure_138 : decode cX10_measure 138 = .ok (.iconst 4, 1) := by decide +kernel
theorem dX10_measure_139 : decode cX10_measure 139 = .ok (.iload_n 1, 1) := by decide +kernel
theorem dX10_measure_140 : decode cX10_measure 140 = .ok (.imul, 1) := by decide +kernel
theorem dX10_measure_141 : decode cX10_measure 141 = .ok (.iload_n 2, 1) := by decide +kernel
theorem dX10_measure_142 : decode cX10_measure 142 = .ok (.iadd, 1) := by decide +kernel
theorem dX10_measure_143 : decode cX10_measure 143 = .ok (.iaload, 1) := by decide +kernel
theorem dX10_measure_144 : decode cX10_measure 144 = .ok (.if_icmp .le 8, 3) := by decide +kernel
theorem dX10_measure_147 : decode cX10_measure 147 = .ok (.iload 4, 2) := by decide +kernel
theorem dX10_measure_149 : decode cX10_measure 149 = .ok (.goto 13, 3) := by decide +kernel
theorem dX10_measure_152 : decode cX10_measure 152 = .ok (.aload_n 0, 1) := by decide +kernel
theorem dX10_measure_153 : decode cX10_measure 153 = .ok (.getfield 81, 3) := by decide +kernel
theorem dX10_measure_156 : decode cX10_measure 156 = .ok (.iconst 4, 1) := by decide +kernel
theorem dX10_measure_157 : decode cX10_measure 157 = .ok (.iload_n 1, 1) := by decide +kernel
theorem dX10_measure_158 : decode cX10_measure 158 = .ok (.imul, 1) := by decide +kernel
theorem dX10_measure_159 : decode cX10_measure 159 = .ok (.iload_n 2, 1) := by decide +kernel
theorem dX10_measure_160 : decode cX10_measure 160 = .ok (.iadd, 1) := by decide +kernel
theorem dX10_measure_161 : decode cX10_measure 161 = .ok (.iaload, 1) := by decide +kernel
theorem dX10_measure_162 : decode cX10_measure 162 = .ok (.iastore, 1) := by decide +kernel
theorem dX10_measure_163 : decode cX10_measure 163 = .ok (.iinc 3 1, 3) := by decide +kernel
theorem dX10_measure_166 : decode cX10_measure 166 = .ok (.goto (-133), 3) := by decide +kernel
theorem dX10_measure_169 : decode cX10_measure 169 = .ok (.iinc 2 1, 3) := by decide +kernel
theorem dX10_measure_172 : decode cX10_measure 172 = .ok (.goto (-170), 3) := by decide +kernel
theorem dX10_measure_175 : decode cX10_measure 175 = .ok (.return_, 1) := by decide +kernel
theorem dX10_goes_0 : decode cX10_goes 0 = .ok (.iload_n 2, 1) := by decide +kernel
theorem dX10_goes_1 : decode cX10_goes 1 = .ok (.bipush 8, 2) := by decide +kernel
theorem dX10_goes_3 : decode cX10_goes 3 = .ok (.irem, 1) := by decide +kernel
theorem dX10_goes_4 : decode cX10_goes 4 = .ok (.iconst 2, 1) := by decide +kernel
theorem dX10_goes_5 : decode cX10_goes 5 = .ok (.idiv, 1) := by decide +kernel
theorem dX10_goes_6 : decode cX10_goes 6 = .ok (.istore_n 3, 1) := by decide +kernel
theorem dX10_goes_7 : decode cX10_goes 7 = .ok (.iload_n 2, 1) := by decide +kernel
theorem dX10_goes_8 : decode cX10_goes 8 = .ok (.bipush 8, 2) := by decide +kernel
theorem dX10_goes_10 : decode cX10_goes 10 = .ok (.idiv, 1) := by decide +kernel
theorem dX10_goes_11 : decode cX10_goes 11 = .ok (.bipush (-24), 2) := by decide +kernel
theorem dX10_goes_13 : decode cX10_goes 13 = .ok (.iadd, 1) := by decide +kernel
theorem dX10_goes_14 : decode cX10_goes 14 = .ok (.istore 4, 2) := by decide +kernel
theorem dX10_goes_16 : decode cX10_goes 16 = .ok (.aload_n 0, 1) := by decide +kernel
theorem dX10_goes_17 : decode cX10_goes 17 = .ok (.getfield 78, 3) := by decide +kernel
theorem dX10_goes_20 : decode cX10_goes 20 = .ok (.iconst 4, 1) := by decide +kernel
theorem dX10_goes_21 : decode cX10_goes 21 = .ok (.iload_n 1, 1) := by decide +kernel
theorem dX10_goes_22 : decode cX10_goes 22 = .ok (.imul, 1) := by decide +kernel
theorem dX10_goes_23 : decode cX10_goes 23 = .ok (.iload_n 3, 1) := by decide +kernel
theorem dX10_goes_24 : decode cX10_goes 24 = .ok (.iadd, 1) := by decide +kernel
theorem dX10_goes_25 : decode cX10_goes 25 = .ok (.iaload, 1) := by decide +kernel
theorem dX10_goes_26 : decode cX10_goes 26 = .ok (.bipush 6, 2) := by decide +kernel
theorem dX10_goes_28 : decode cX10_goes 28 = .ok (.iload 4, 2) := by decide +kernel
theorem dX10_goes_30 : decode cX10_goes 30 = .ok (.imul, 1) := by decide +kernel
theorem dX10_goes_31 : decode cX10_goes 31 = .ok (.if_icmp .ge 21, 3) := by decide +kernel
theorem dX10_goes_34 : decode cX10_goes 34 = .ok (.aload_n 0, 1) := by decide +kernel
theorem dX10_goes_35 : decode cX10_goes 35 = .ok (.getfield 81, 3) := by decide +kernel
theorem dX10_goes_38 : decode cX10_goes 38 = .ok (.iconst 4, 1) := by decide +kernel
theorem dX10_goes_39 : decode cX10_goes 39 = .ok (.iload_n 1, 1) := by decide +kernel
theorem dX10_goes_40 : decode cX10_goes 40 = .ok (.imul, 1) := by decide +kernel
theorem dX10_goes_41 : decode cX10_goes 41 = .ok (.iload_n 3, 1) := by decide +kernel
theorem dX10_goes_42 : decode cX10_goes 42 = .ok (.iadd, 1) := by decide +kernel
theorem dX10_goes_43 : decode cX10_goes 43 = .ok (.iaload, 1) := by decide +kernel
theorem dX10_goes_44 : decode cX10_goes 44 = .ok (.bipush 6, 2) := by decide +kernel
theorem dX10_goes_46 : decode cX10_goes 46 = .ok (.iload 4, 2) := by decide +kernel
theorem dX10_goes_48 : decode cX10_goes 48 = .ok (.imul, 1) := by decide +kernel
theorem dX10_goes_49 : decode cX10_goes 49 = .ok (.if_icmp .gt 5, 3) := by decide +kernel
theorem dX10_goes_52 : decode cX10_goes 52 = .ok (.iconst 0, 1) := by decide +kernel
theorem dX10_goes_53 : decode cX10_goes 53 = .ok (.ireturn, 1) := by decide +kernel
theorem dX10_goes_54 : decode cX10_goes 54 = .ok (.aload_n 0, 1) := by decide +kernel
theorem dX10_goes_55 : decode cX10_goes 55 = .ok (.dup, 1) := by decide +kernel
theorem dX10_goes_56 : decode cX10_goes 56 = .ok (.getfield 207, 3) := by decide +kernel
theorem dX10_goes_59 : decode cX10_goes 59 = .ok (.iconst 2, 1) := by decide +kernel
theorem dX10_goes_60 : decode cX10_goes 60 = .ok (.iadd, 1) := by decide +kernel
theorem dX10_goes_61 : decode cX10_goes 61 = .ok (.putfield 207, 3) := by decide +kernel
theorem dX10_goes_64 : decode cX10_goes 64 = .ok (.iconst 1, 1) := by decide +kernel
theorem dX10_goes_65 : decode cX10_goes 65 = .ok (.istore 5, 2) := by decide +kernel
theorem dX10_goes_67 : decode cX10_goes 67 = .ok (.iconst 0, 1) := by decide +kernel
theorem dX10_goes_68 : decode cX10_goes 68 = .ok (.istore 6, 2) := by decide +kernel
theorem dX10_goes_70 : decode cX10_goes 70 = .ok (.iload 6, 2) := by decide +kernel
theorem dX10_goes_72 : decode cX10_goes 72 = .ok (.aload_n 0, 1) := by decide +kernel
theorem dX10_goes_73 : decode cX10_goes 73 = .ok (.invokevirtual 97, 3) := by decide +kernel
theorem dX10_goes_76 : decode cX10_goes 76 = .ok (.if_icmp .ge 268, 3) := by decide +kernel
theorem dX10_goes_79 : decode cX10_goes 79 = .ok (.iload 5, 2) := by decide +kernel
theorem dX10_goes_81 : decode cX10_goes 81 = .ok (.ifCond .eq 263, 3) := by decide +kernel
theorem dX10_goes_84 : decode cX10_goes 84 = .ok (.sipush 144, 3) := by decide +kernel
theorem dX10_goes_87 : decode cX10_goes 87 = .ok (.iload_n 1, 1) := by decide +kernel
theorem dX10_goes_88 : decode cX10_goes 88 = .ok (.imul, 1) := by decide +kernel
theorem dX10_goes_89 : decode cX10_goes 89 = .ok (.iload 6, 2) := by decide +kernel
theorem dX10_goes_91 : decode cX10_goes 91 = .ok (.iadd, 1) := by decide +kernel
theorem dX10_goes_92 : decode cX10_goes 92 = .ok (.istore 7, 2) := by decide +kernel
theorem dX10_goes_94 : decode cX10_goes 94 = .ok (.iload 7, 2) := by decide +kernel
theorem dX10_goes_96 : decode cX10_goes 96 = .ok (.sipush 144, 3) := by decide +kernel
theorem dX10_goes_99 : decode cX10_goes 99 = .ok (.iadd, 1) := by decide +kernel
theorem dX10_goes_100 : decode cX10_goes 100 = .ok (.istore 8, 2) := by decide +kernel
theorem dX10_goes_102 : decode cX10_goes 102 = .ok (.aload_n 0, 1) := by decide +kernel
theorem dX10_goes_103 : decode cX10_goes 103 = .ok (.getfield 66, 3) := by decide +kernel
theorem dX10_goes_106 : decode cX10_goes 106 = .ok (.iload 8, 2) := by decide +kernel
theorem dX10_goes_108 : decode cX10_goes 108 = .ok (.aload_n 0, 1) := by decide +kernel
theorem dX10_goes_109 : decode cX10_goes 109 = .ok (.getfield 66, 3) := by decide +kernel
theorem dX10_goes_112 : decode cX10_goes 112 = .ok (.iload 7, 2) := by decide +kernel
theorem dX10_goes_114 : decode cX10_goes 114 = .ok (.iaload, 1) := by decide +kernel
theorem dX10_goes_115 : decode cX10_goes 115 = .ok (.iastore, 1) := by decide +kernel
theorem dX10_goes_116 : decode cX10_goes 116 = .ok (.aload_n 0, 1) := by decide +kernel
theorem dX10_goes_117 : decode cX10_goes 117 = .ok (.getfield 69, 3) := by decide +kernel
theorem dX10_goes_120 : decode cX10_goes 120 = .ok (.iload 8, 2) := by decide +kernel
theorem dX10_goes_122 : decode cX10_goes 122 = .ok (.aload_n 0, 1) := by decide +kernel
theorem dX10_goes_123 : decode cX10_goes 123 = .ok (.getfield 69, 3) := by decide +kernel
theorem dX10_goes_126 : decode cX10_goes 126 = .ok (.iload 7, 2) := by decide +kernel
theorem dX10_goes_128 : decode cX10_goes 128 = .ok (.iaload, 1) := by decide +kernel
theorem dX10_goes_129 : decode cX10_goes 129 = .ok (.iastore, 1) := by decide +kernel
theorem dX10_goes_130 : decode cX10_goes 130 = .ok (.aload_n 0, 1) := by decide +kernel
theorem dX10_goes_131 : decode cX10_goes 131 = .ok (.getfield 72, 3) := by decide +kernel
theorem dX10_goes_134 : decode cX10_goes 134 = .ok (.iload 8, 2) := by decide +kernel
theorem dX10_goes_136 : decode cX10_goes 136 = .ok (.aload_n 0, 1) := by decide +kernel
theorem dX10_goes_137 : decode cX10_goes 137 = .ok (.getfield 72, 3) := by decide +kernel
theorem dX10_goes_140 : decode cX10_goes 140 = .ok (.iload 7, 2) := by decide +kernel
theorem dX10_goes_142 : decode cX10_goes 142 = .ok (.iaload, 1) := by decide +kernel
theorem dX10_goes_143 : decode cX10_goes 143 = .ok (.iastore, 1) := by decide +kernel
theorem dX10_goes_144 : decode cX10_goes 144 = .ok (.iload_n 3, 1) := by decide +kernel
theorem dX10_goes_145 : decode cX10_goes 145 = .ok (.iload 4, 2) := by decide +kernel
theorem dX10_goes_147 : decode cX10_goes 147 = .ok (.aload_n 0, 1) := by decide +kernel
theorem dX10_goes_148 : decode cX10_goes 148 = .ok (.getfield 66, 3) := by decide +kernel
theorem dX10_goes_151 : decode cX10_goes 151 = .ok (.iload 7, 2) := by decide +kernel
theorem dX10_goes_153 : decode cX10_goes 153 = .ok (.iaload, 1) := by decide +kernel
theorem dX10_goes_154 : decode cX10_goes 154 = .ok (.aload_n 0, 1) := by decide +kernel
theorem dX10_goes_155 : decode cX10_goes 155 = .ok (.getfield 69, 3) := by decide +kernel
theorem dX10_goes_158 : decode cX10_goes 158 = .ok (.iload 7, 2) := by decide +kernel
theorem dX10_goes_160 : decode cX10_goes 160 = .ok (.iaload, 1) := by decide +kernel
theorem dX10_goes_161 : decode cX10_goes 161 = .ok (.aload_n 0, 1) := by decide +kernel
theorem dX10_goes_162 : decode cX10_goes 162 = .ok (.getfield 72, 3) := by decide +kernel
theorem dX10_goes_165 : decode cX10_goes 165 = .ok (.iload 7, 2) := by decide +kernel
theorem dX10_goes_167 : decode cX10_goes 167 = .ok (.iaload, 1) := by decide +kernel
theorem dX10_goes_168 : decode cX10_goes 168 = .ok (.invokestatic 142, 3) := by decide +kernel
theorem dX10_goes_171 : decode cX10_goes 171 = .ok (.iload_n 2, 1) := by decide +kernel
theorem dX10_goes_172 : decode cX10_goes 172 = .ok (.iconst 2, 1) := by decide +kernel
theorem dX10_goes_173 : decode cX10_goes 173 = .ok (.irem, 1) := by decide +kernel
theorem dX10_goes_174 : decode cX10_goes 174 = .ok (.if_icmp .ne 64, 3) := by decide +kernel
theorem dX10_goes_177 : decode cX10_goes 177 = .ok (.aload_n 0, 1) := by decide +kernel
theorem dX10_goes_178 : decode cX10_goes 178 = .ok (.iload_n 3, 1) := by decide +kernel
theorem dX10_goes_179 : decode cX10_goes 179 = .ok (.iload 4, 2) := by decide +kernel
theorem dX10_goes_181 : decode cX10_goes 181 = .ok (.aload_n 0, 1) := by decide +kernel
theorem dX10_goes_182 : decode cX10_goes 182 = .ok (.getfield 66, 3) := by decide +kernel
theorem dX10_goes_185 : decode cX10_goes 185 = .ok (.iload 7, 2) := by decide +kernel
theorem dX10_goes_187 : decode cX10_goes 187 = .ok (.iaload, 1) := by decide +kernel
theorem dX10_goes_188 : decode cX10_goes 188 = .ok (.aload_n 0, 1) := by decide +kernel
theorem dX10_goes_189 : decode cX10_goes 189 = .ok (.getfield 69, 3) := by decide +kernel
theorem dX10_goes_192 : decode cX10_goes 192 = .ok (.iload 7, 2) := by decide +kernel
theorem dX10_goes_194 : decode cX10_goes 194 = .ok (.iaload, 1) := by decide +kernel
theorem dX10_goes_195 : decode cX10_goes 195 = .ok (.aload_n 0, 1) := by decide +kernel
theorem dX10_goes_196 : decode cX10_goes 196 = .ok (.getfield 72, 3) := by decide +kernel
theorem dX10_goes_199 : decode cX10_goes 199 = .ok (.iload 7, 2) := by decide +kernel
theorem dX10_goes_201 : decode cX10_goes 201 = .ok (.iaload, 1) := by decide +kernel
theorem dX10_goes_202 : decode cX10_goes 202 = .ok (.invokevirtual 153, 3) := by decide +kernel
theorem dX10_goes_205 : decode cX10_goes 205 = .ok (.aload_n 0, 1) := by decide +kernel
theorem dX10_goes_206 : decode cX10_goes 206 = .ok (.getfield 66, 3) := by decide +kernel
theorem dX10_goes_209 : decode cX10_goes 209 = .ok (.iload 8, 2) := by decide +kernel
theorem dX10_goes_211 : decode cX10_goes 211 = .ok (.aload_n 0, 1) := by decide +kernel
theorem dX10_goes_212 : decode cX10_goes 212 = .ok (.getfield 122, 3) := by decide +kernel
theorem dX10_goes_215 : decode cX10_goes 215 = .ok (.iastore, 1) := by decide +kernel
theorem dX10_goes_216 : decode cX10_goes 216 = .ok (.aload_n 0, 1) := by decide +kernel
theorem dX10_goes_217 : decode cX10_goes 217 = .ok (.getfield 69, 3) := by decide +kernel
theorem dX10_goes_220 : decode cX10_goes 220 = .ok (.iload 8, 2) := by decide +kernel
theorem dX10_goes_222 : decode cX10_goes 222 = .ok (.aload_n 0, 1) := by decide +kernel
theorem dX10_goes_223 : decode cX10_goes 223 = .ok (.getfield 125, 3) := by decide +kernel
theorem dX10_goes_226 : decode cX10_goes 226 = .ok (.iastore, 1) := by decide +kernel
theorem dX10_goes_227 : decode cX10_goes 227 = .ok (.aload_n 0, 1) := by decide +kernel
theorem dX10_goes_228 : decode cX10_goes 228 = .ok (.getfield 72, 3) := by decide +kernel
theorem dX10_goes_231 : decode cX10_goes 231 = .ok (.iload 8, 2) := by decide +kernel
theorem dX10_goes_233 : decode cX10_goes 233 = .ok (.aload_n 0, 1) := by decide +kernel
theorem dX10_goes_234 : decode cX10_goes 234 = .ok (.getfield 128, 3) := by decide +kernel
theorem dX10_goes_237 : decode cX10_goes 237 = .ok (.iastore, 1) := by decide +kernel
theorem dX10_goes_238 : decode cX10_goes 238 = .ok (.iconst 4, 1) := by decide +kernel
theorem dX10_goes_239 : decode cX10_goes 239 = .ok (.bipush 64, 2) := by decide +kernel
theorem dX10_goes_241 : decode cX10_goes 241 = .ok (.aload_n 0, 1) := by decide +kernel
theorem dX10_goes_242 : decode cX10_goes 242 = .ok (.getfield 69, 3) := by decide +kernel
theorem dX10_goes_245 : decode cX10_goes 245 = .ok (.iload 8, 2) := by decide +kernel
theorem dX10_goes_247 : decode cX10_goes 247 = .ok (.iaload, 1) := by decide +kernel
theorem dX10_goes_248 : decode cX10_goes 248 = .ok (.bipush 32, 2) := by decide +kernel
theorem dX10_goes_250 : decode cX10_goes 250 = .ok (.iadd, 1) := by decide +kernel
theorem dX10_goes_251 : decode cX10_goes 251 = .ok (.imul, 1) := by decide +kernel
theorem dX10_goes_252 : decode cX10_goes 252 = .ok (.aload_n 0, 1) := by decide +kernel
theorem dX10_goes_253 : decode cX10_goes 253 = .ok (.getfield 66, 3) := by decide +kernel
theorem dX10_goes_256 : decode cX10_goes 256 = .ok (.iload 8, 2) := by decide +kernel
theorem dX10_goes_258 : decode cX10_goes 258 = .ok (.iaload, 1) := by decide +kernel
theorem dX10_goes_259 : decode cX10_goes 259 = .ok (.iadd, 1) := by decide +kernel
theorem dX10_goes_260 : decode cX10_goes 260 = .ok (.bipush 32, 2) := by decide +kernel
theorem dX10_goes_262 : decode cX10_goes 262 = .ok (.iadd, 1) := by decide +kernel
theorem dX10_goes_263 : decode cX10_goes 263 = .ok (.imul, 1) := by decide +kernel
theorem dX10_goes_264 : decode cX10_goes 264 = .ok (.aload_n 0, 1) := by decide +kernel
theorem dX10_goes_265 : decode cX10_goes 265 = .ok (.getfield 72, 3) := by decide +kernel
theorem dX10_goes_268 : decode cX10_goes 268 = .ok (.iload 8, 2) := by decide +kernel
theorem dX10_goes_270 : decode cX10_goes 270 = .ok (.iaload, 1) := by decide +kernel
theorem dX10_goes_271 : decode cX10_goes 271 = .ok (.iadd, 1) := by decide +kernel
theorem dX10_goes_272 : decode cX10_goes 272 = .ok (.istore 9, 2) := by decide +kernel
theorem dX10_goes_274 : decode cX10_goes 274 = .ok (.aload_n 0, 1) := by decide +kernel
theorem dX10_goes_275 : decode cX10_goes 275 = .ok (.getfield 207, 3) := by decide +kernel
theorem dX10_goes_278 : decode cX10_goes 278 = .ok (.aload_n 0, 1) := by decide +kernel
theorem dX10_goes_279 : decode cX10_goes 279 = .ok (.getfield 60, 3) := by decide +kernel
theorem dX10_goes_282 : decode cX10_goes 282 = .ok (.iload 6, 2) := by decide +kernel
theorem dX10_goes_284 : decode cX10_goes 284 = .ok (.baload, 1) := by decide +kernel
theorem dX10_goes_285 : decode cX10_goes 285 = .ok (.ifCond .eq 7, 3) := by decide +kernel
theorem dX10_goes_288 : decode cX10_goes 288 = .ok (.iconst 1, 1) := by decide +kernel
theorem dX10_goes_289 : decode cX10_goes 289 = .ok (.goto 4, 3) := by decide +kernel
theorem dX10_goes_292 : decode cX10_goes 292 = .ok (.iconst 0, 1) := by decide +kernel
theorem dX10_goes_293 : decode cX10_goes 293 = .ok (.iadd, 1) := by decide +kernel
theorem dX10_goes_294 : decode cX10_goes 294 = .ok (.istore 10, 2) := by decide +kernel
theorem dX10_goes_296 : decode cX10_goes 296 = .ok (.aload_n 0, 1) := by decide +kernel
theorem dX10_goes_297 : decode cX10_goes 297 = .ok (.getfield 75, 3) := by decide +kernel
theorem dX10_goes_300 : decode cX10_goes 300 = .ok (.iload 9, 2) := by decide +kernel
theorem dX10_goes_302 : decode cX10_goes 302 = .ok (.iaload, 1) := by decide +kernel
theorem dX10_goes_303 : decode cX10_goes 303 = .ok (.aload_n 0, 1) := by decide +kernel
theorem dX10_goes_304 : decode cX10_goes 304 = .ok (.getfield 207, 3) := by decide +kernel
theorem dX10_goes_307 : decode cX10_goes 307 = .ok (.if_icmp .lt 15, 3) := by decide +kernel
theorem dX10_goes_310 : decode cX10_goes 310 = .ok (.aload_n 0, 1) := by decide +kernel
theorem dX10_goes_311 : decode cX10_goes 311 = .ok (.getfield 75, 3) := by decide +kernel
theorem dX10_goes_314 : decode cX10_goes 314 = .ok (.iload 9, 2) := by decide +kernel
theorem dX10_goes_316 : decode cX10_goes 316 = .ok (.iaload, 1) := by decide +kernel
theorem dX10_goes_317 : decode cX10_goes 317 = .ok (.iload 10, 2) := by decide +kernel
theorem dX10_goes_319 : decode cX10_goes 319 = .ok (.if_icmp .ne 7, 3) := by decide +kernel
theorem dX10_goes_322 : decode cX10_goes 322 = .ok (.iconst 1, 1) := by decide +kernel
theorem dX10_goes_323 : decode cX10_goes 323 = .ok (.goto 4, 3) := by decide +kernel
theorem dX10_goes_326 : decode cX10_goes 326 = .ok (.iconst 0, 1) := by decide +kernel
theorem dX10_goes_327 : decode cX10_goes 327 = .ok (.istore 5, 2) := by decide +kernel
theorem dX10_goes_329 : decode cX10_goes 329 = .ok (.aload_n 0, 1) := by decide +kernel
theorem dX10_goes_330 : decode cX10_goes 330 = .ok (.getfield 75, 3) := by decide +kernel
theorem dX10_goes_333 : decode cX10_goes 333 = .ok (.iload 9, 2) := by decide +kernel
theorem dX10_goes_335 : decode cX10_goes 335 = .ok (.iload 10, 2) := by decide +kernel
theorem dX10_goes_337 : decode cX10_goes 337 = .ok (.iastore, 1) := by decide +kernel
theorem dX10_goes_338 : decode cX10_goes 338 = .ok (.iinc 6 1, 3) := by decide +kernel
theorem dX10_goes_341 : decode cX10_goes 341 = .ok (.goto (-271), 3) := by decide +kernel
theorem dX10_goes_344 : decode cX10_goes 344 = .ok (.iload 5, 2) := by decide +kernel
theorem dX10_goes_346 : decode cX10_goes 346 = .ok (.ireturn, 1) := by decide +kernel
theorem dX10_cuts_0 : decode cX10_cuts 0 = .ok (.iconst 0, 1) := by decide +kernel
theorem dX10_cuts_1 : decode cX10_cuts 1 = .ok (.istore_n 2, 1) := by decide +kernel
theorem dX10_cuts_2 : decode cX10_cuts 2 = .ok (.ldc 135, 2) := by decide +kernel
theorem dX10_cuts_4 : decode cX10_cuts 4 = .ok (.istore_n 3, 1) := by decide +kernel
theorem dX10_cuts_5 : decode cX10_cuts 5 = .ok (.iconst 0, 1) := by decide +kernel
theorem dX10_cuts_6 : decode cX10_cuts 6 = .ok (.istore 4, 2) := by decide +kernel
theorem dX10_cuts_8 : decode cX10_cuts 8 = .ok (.iload 4, 2) := by decide +kernel
theorem dX10_cuts_10 : decode cX10_cuts 10 = .ok (.iconst 4, 1) := by decide +kernel
theorem dX10_cuts_11 : decode cX10_cuts 11 = .ok (.if_icmp .ge 314, 3) := by decide +kernel
theorem dX10_cuts_14 : decode cX10_cuts 14 = .ok (.ldc 205, 2) := by decide +kernel
theorem dX10_cuts_16 : decode cX10_cuts 16 = .ok (.istore 5, 2) := by decide +kernel
theorem dX10_cuts_18 : decode cX10_cuts 18 = .ok (.ldc 206, 2) := by decide +kernel
theorem dX10_cuts_20 : decode cX10_cuts 20 = .ok (.istore 6, 2) := by decide +kernel
theorem dX10_cuts_22 : decode cX10_cuts 22 = .ok (.ldc 205, 2) := by decide +kernel
theorem dX10_cuts_24 : decode cX10_cuts 24 = .ok (.istore 7, 2) := by decide +kernel
theorem dX10_cuts_26 : decode cX10_cuts 26 = .ok (.ldc 206, 2) := by decide +kernel
theorem dX10_cuts_28 : decode cX10_cuts 28 = .ok (.istore 8, 2) := by decide +kernel
theorem dX10_cuts_30 : decode cX10_cuts 30 = .ok (.iconst 0, 1) := by decide +kernel
theorem dX10_cuts_31 : decode cX10_cuts 31 = .ok (.istore 9, 2) := by decide +kernel
theorem dX10_cuts_33 : decode cX10_cuts 33 = .ok (.iload 9, 2) := by decide +kernel
theorem dX10_cuts_35 : decode cX10_cuts 35 = .ok (.aload_n 0, 1) := by decide +kernel
theorem dX10_cuts_36 : decode cX10_cuts 36 = .ok (.invokevirtual 97, 3) := by decide +kernel
theorem dX10_cuts_39 : decode cX10_cuts 39 = .ok (.if_icmp .ge 132, 3) := by decide +kernel
theorem dX10_cuts_42 : decode cX10_cuts 42 = .ok (.iload 4, 2) := by decide +kernel
theorem dX10_cuts_44 : decode cX10_cuts 44 = .ok (.aload_n 0, 1) := by decide +kernel
theorem dX10_cuts_45 : decode cX10_cuts 45 = .ok (.getfield 66, 3) := by decide +kernel
theorem dX10_cuts_48 : decode cX10_cuts 48 = .ok (.sipush 144, 3) := by decide +kernel
theorem dX10_cuts_51 : decode cX10_cuts 51 = .ok (.iload_n 1, 1) := by decide +kernel
theorem dX10_cuts_52 : decode cX10_cuts 52 = .ok (.imul, 1) := by decide +kernel
theorem dX10_cuts_53 : decode cX10_cuts 53 = .ok (.iload 9, 2) := by decide +kernel
theorem dX10_cuts_55 : decode cX10_cuts 55 = .ok (.iadd, 1) := by decide +kernel
theorem dX10_cuts_56 : decode cX10_cuts 56 = .ok (.iaload, 1) := by decide +kernel
theorem dX10_cuts_57 : decode cX10_cuts 57 = .ok (.aload_n 0, 1) := by decide +kernel
theorem dX10_cuts_58 : decode cX10_cuts 58 = .ok (.getfield 69, 3) := by decide +kernel
theorem dX10_cuts_61 : decode cX10_cuts 61 = .ok (.sipush 144, 3) := by decide +kernel
theorem dX10_cuts_64 : decode cX10_cuts 64 = .ok (.iload_n 1, 1) := by decide +kernel
theorem dX10_cuts_65 : decode cX10_cuts 65 = .ok (.imul, 1) := by decide +kernel
theorem dX10_cuts_66 : decode cX10_cuts 66 = .ok (.iload 9, 2) := by decide +kernel
theorem dX10_cuts_68 : decode cX10_cuts 68 = .ok (.iadd, 1) := by decide +kernel
theorem dX10_cuts_69 : decode cX10_cuts 69 = .ok (.iaload, 1) := by decide +kernel
theorem dX10_cuts_70 : decode cX10_cuts 70 = .ok (.aload_n 0, 1) := by decide +kernel
theorem dX10_cuts_71 : decode cX10_cuts 71 = .ok (.getfield 72, 3) := by decide +kernel
theorem dX10_cuts_74 : decode cX10_cuts 74 = .ok (.sipush 144, 3) := by decide +kernel
theorem dX10_cuts_77 : decode cX10_cuts 77 = .ok (.iload_n 1, 1) := by decide +kernel
theorem dX10_cuts_78 : decode cX10_cuts 78 = .ok (.imul, 1) := by decide +kernel
theorem dX10_cuts_79 : decode cX10_cuts 79 = .ok (.iload 9, 2) := by decide +kernel
theorem dX10_cuts_81 : decode cX10_cuts 81 = .ok (.iadd, 1) := by decide +kernel
theorem dX10_cuts_82 : decode cX10_cuts 82 = .ok (.iaload, 1) := by decide +kernel
theorem dX10_cuts_83 : decode cX10_cuts 83 = .ok (.invokestatic 118, 3) := by decide +kernel
theorem dX10_cuts_86 : decode cX10_cuts 86 = .ok (.istore 10, 2) := by decide +kernel
theorem dX10_cuts_88 : decode cX10_cuts 88 = .ok (.aload_n 0, 1) := by decide +kernel
theorem dX10_cuts_89 : decode cX10_cuts 89 = .ok (.getfield 60, 3) := by decide +kernel
theorem dX10_cuts_92 : decode cX10_cuts 92 = .ok (.iload 9, 2) := by decide +kernel
theorem dX10_cuts_94 : decode cX10_cuts 94 = .ok (.baload, 1) := by decide +kernel
theorem dX10_cuts_95 : decode cX10_cuts 95 = .ok (.ifCond .eq 38, 3) := by decide +kernel
theorem dX10_cuts_98 : decode cX10_cuts 98 = .ok (.iload 10, 2) := by decide +kernel
theorem dX10_cuts_100 : decode cX10_cuts 100 = .ok (.iload 5, 2) := by decide +kernel
theorem dX10_cuts_102 : decode cX10_cuts 102 = .ok (.if_icmp .ge 8, 3) := by decide +kernel
theorem dX10_cuts_105 : decode cX10_cuts 105 = .ok (.iload 10, 2) := by decide +kernel
theorem dX10_cuts_107 : decode cX10_cuts 107 = .ok (.goto 5, 3) := by decide +kernel
theorem dX10_cuts_110 : decode cX10_cuts 110 = .ok (.iload 5, 2) := by decide +kernel
theorem dX10_cuts_112 : decode cX10_cuts 112 = .ok (.istore 5, 2) := by decide +kernel
theorem dX10_cuts_114 : decode cX10_cuts 114 = .ok (.iload 10, 2) := by decide +kernel
theorem dX10_cuts_116 : decode cX10_cuts 116 = .ok (.iload 6, 2) := by decide +kernel
theorem dX10_cuts_118 : decode cX10_cuts 118 = .ok (.if_icmp .le 8, 3) := by decide +kernel
theorem dX10_cuts_121 : decode cX10_cuts 121 = .ok (.iload 10, 2) := by decide +kernel
theorem dX10_cuts_123 : decode cX10_cuts 123 = .ok (.goto 5, 3) := by decide +kernel
theorem dX10_cuts_126 : decode cX10_cuts 126 = .ok (.iload 6, 2) := by decide +kernel
theorem dX10_cuts_128 : decode cX10_cuts 128 = .ok (.istore 6, 2) := by decide +kernel
theorem dX10_cuts_130 : decode cX10_cuts 130 = .ok (.goto 35, 3) := by decide +kernel
theorem dX10_cuts_133 : decode cX10_cuts 133 = .ok (.iload 10, 2) := by decide +kernel
theorem dX10_cuts_135 : decode cX10_cuts 135 = .ok (.iload 7, 2) := by decide +kernel
theorem dX10_cuts_137 : decode cX10_cuts 137 = .ok (.if_icmp .ge 8, 3) := by decide +kernel
theorem dX10_cuts_140 : decode cX10_cuts 140 = .ok (.iload 10, 2) := by decide +kernel
theorem dX10_cuts_142 : decode cX10_cuts 142 = .ok (.goto 5, 3) := by decide +kernel
theorem dX10_cuts_145 : decode cX10_cuts 145 = .ok (.iload 7, 2) := by decide +kernel
theorem dX10_cuts_147 : decode cX10_cuts 147 = .ok (.istore 7, 2) := by decide +kernel
theorem dX10_cuts_149 : decode cX10_cuts 149 = .ok (.iload 10, 2) := by decide +kernel
theorem dX10_cuts_151 : decode cX10_cuts 151 = .ok (.iload 8, 2) := by decide +kernel
theorem dX10_cuts_153 : decode cX10_cuts 153 = .ok (.if_icmp .le 8, 3) := by decide +kernel
theorem dX10_cuts_156 : decode cX10_cuts 156 = .ok (.iload 10, 2) := by decide +kernel
theorem dX10_cuts_158 : decode cX10_cuts 158 = .ok (.goto 5, 3) := by decide +kernel
theorem dX10_cuts_161 : decode cX10_cuts 161 = .ok (.iload 8, 2) := by decide +kernel
theorem dX10_cuts_163 : decode cX10_cuts 163 = .ok (.istore 8, 2) := by decide +kernel
theorem dX10_cuts_165 : decode cX10_cuts 165 = .ok (.iinc 9 1, 3) := by decide +kernel
theorem dX10_cuts_168 : decode cX10_cuts 168 = .ok (.goto (-135), 3) := by decide +kernel
theorem dX10_cuts_171 : decode cX10_cuts 171 = .ok (.bipush (-24), 2) := by decide +kernel
theorem dX10_cuts_173 : decode cX10_cuts 173 = .ok (.istore 9, 2) := by decide +kernel
theorem dX10_cuts_175 : decode cX10_cuts 175 = .ok (.iload 9, 2) := by decide +kernel
theorem dX10_cuts_177 : decode cX10_cuts 177 = .ok (.bipush 48, 2) := by decide +kernel
theorem dX10_cuts_179 : decode cX10_cuts 179 = .ok (.if_icmp .gt 140, 3) := by decide +kernel
theorem dX10_cuts_182 : decode cX10_cuts 182 = .ok (.iconst 0, 1) := by decide +kernel
theorem dX10_cuts_183 : decode cX10_cuts 183 = .ok (.istore 10, 2) := by decide +kernel
theorem dX10_cuts_185 : decode cX10_cuts 185 = .ok (.iload 10, 2) := by decide +kernel
theorem dX10_cuts_187 : decode cX10_cuts 187 = .ok (.iconst 2, 1) := by decide +kernel
theorem dX10_cuts_188 : decode cX10_cuts 188 = .ok (.if_icmp .ge 125, 3) := by decide +kernel
theorem dX10_cuts_191 : decode cX10_cuts 191 = .ok (.iload 10, 2) := by decide +kernel
theorem dX10_cuts_193 : decode cX10_cuts 193 = .ok (.iconst 1, 1) := by decide +kernel
theorem dX10_cuts_194 : decode cX10_cuts 194 = .ok (.if_icmp .ne 31, 3) := by decide +kernel
theorem dX10_cuts_197 : decode cX10_cuts 197 = .ok (.iload 8, 2) := by decide +kernel
theorem dX10_cuts_199 : decode cX10_cuts 199 = .ok (.bipush 6, 2) := by decide +kernel
theorem dX10_cuts_201 : decode cX10_cuts 201 = .ok (.iload 9, 2) := by decide +kernel
theorem dX10_cuts_203 : decode cX10_cuts 203 = .ok (.imul, 1) := by decide +kernel
theorem dX10_cuts_204 : decode cX10_cuts 204 = .ok (.if_icmp .ge 17, 3) := by decide +kernel
theorem dX10_cuts_207 : decode cX10_cuts 207 = .ok (.bipush 6, 2) := by decide +kernel
theorem dX10_cuts_209 : decode cX10_cuts 209 = .ok (.iload 9, 2) := by decide +kernel
theorem dX10_cuts_211 : decode cX10_cuts 211 = .ok (.imul, 1) := by decide +kernel
theorem dX10_cuts_212 : decode cX10_cuts 212 = .ok (.iload 5, 2) := by decide +kernel
theorem dX10_cuts_214 : decode cX10_cuts 214 = .ok (.if_icmp .ge 7, 3) := by decide +kernel
theorem dX10_cuts_217 : decode cX10_cuts 217 = .ok (.iconst 1, 1) := by decide +kernel
theorem dX10_cuts_218 : decode cX10_cuts 218 = .ok (.goto 32, 3) := by decide +kernel
theorem dX10_cuts_221 : decode cX10_cuts 221 = .ok (.iconst 0, 1) := by decide +kernel
theorem dX10_cuts_222 : decode cX10_cuts 222 = .ok (.goto 28, 3) := by decide +kernel
theorem dX10_cuts_225 : decode cX10_cuts 225 = .ok (.iload 6, 2) := by decide +kernel
theorem dX10_cuts_227 : decode cX10_cuts 227 = .ok (.bipush 6, 2) := by decide +kernel
theorem dX10_cuts_229 : decode cX10_cuts 229 = .ok (.iload 9, 2) := by decide +kernel
theorem dX10_cuts_231 : decode cX10_cuts 231 = .ok (.imul, 1) := by decide +kernel
theorem dX10_cuts_232 : decode cX10_cuts 232 = .ok (.if_icmp .ge 17, 3) := by decide +kernel
theorem dX10_cuts_235 : decode cX10_cuts 235 = .ok (.bipush 6, 2) := by decide +kernel
theorem dX10_cuts_237 : decode cX10_cuts 237 = .ok (.iload 9, 2) := by decide +kernel
theorem dX10_cuts_239 : decode cX10_cuts 239 = .ok (.imul, 1) := by decide +kernel
theorem dX10_cuts_240 : decode cX10_cuts 240 = .ok (.iload 7, 2) := by decide +kernel
theorem dX10_cuts_242 : decode cX10_cuts 242 = .ok (.if_icmp .ge 7, 3) := by decide +kernel
theorem dX10_cuts_245 : decode cX10_cuts 245 = .ok (.iconst 1, 1) := by decide +kernel
theorem dX10_cuts_246 : decode cX10_cuts 246 = .ok (.goto 4, 3) := by decide +kernel
theorem dX10_cuts_249 : decode cX10_cuts 249 = .ok (.iconst 0, 1) := by decide +kernel
theorem dX10_cuts_250 : decode cX10_cuts 250 = .ok (.istore 11, 2) := by decide +kernel
theorem dX10_cuts_252 : decode cX10_cuts 252 = .ok (.bipush 8, 2) := by decide +kernel
theorem dX10_cuts_254 : decode cX10_cuts 254 = .ok (.iload 9, 2) := by decide +kernel
theorem dX10_cuts_256 : decode cX10_cuts 256 = .ok (.bipush (-24), 2) := by decide +kernel
theorem dX10_cuts_258 : decode cX10_cuts 258 = .ok (.isub, 1) := by decide +kernel
theorem dX10_cuts_259 : decode cX10_cuts 259 = .ok (.imul, 1) := by decide +kernel
theorem dX10_cuts_260 : decode cX10_cuts 260 = .ok (.iconst 2, 1) := by decide +kernel
theorem dX10_cuts_261 : decode cX10_cuts 261 = .ok (.iload 4, 2) := by decide +kernel
theorem dX10_cuts_263 : decode cX10_cuts 263 = .ok (.imul, 1) := by decide +kernel
theorem dX10_cuts_264 : decode cX10_cuts 264 = .ok (.iadd, 1) := by decide +kernel
theorem dX10_cuts_265 : decode cX10_cuts 265 = .ok (.iload 10, 2) := by decide +kernel
theorem dX10_cuts_267 : decode cX10_cuts 267 = .ok (.iadd, 1) := by decide +kernel
theorem dX10_cuts_268 : decode cX10_cuts 268 = .ok (.istore 12, 2) := by decide +kernel
theorem dX10_cuts_270 : decode cX10_cuts 270 = .ok (.iload_n 2, 1) := by decide +kernel
theorem dX10_cuts_271 : decode cX10_cuts 271 = .ok (.iload 11, 2) := by decide +kernel
theorem dX10_cuts_273 : decode cX10_cuts 273 = .ok (.ifCond .eq 7, 3) := by decide +kernel
theorem dX10_cuts_276 : decode cX10_cuts 276 = .ok (.iconst 1, 1) := by decide +kernel
theorem dX10_cuts_277 : decode cX10_cuts 277 = .ok (.goto 4, 3) := by decide +kernel
theorem dX10_cuts_280 : decode cX10_cuts 280 = .ok (.iconst 0, 1) := by decide +kernel
theorem dX10_cuts_281 : decode cX10_cuts 281 = .ok (.iadd, 1) := by decide +kernel
theorem dX10_cuts_282 : decode cX10_cuts 282 = .ok (.istore_n 2, 1) := by decide +kernel
theorem dX10_cuts_283 : decode cX10_cuts 283 = .ok (.iload 11, 2) := by decide +kernel
theorem dX10_cuts_285 : decode cX10_cuts 285 = .ok (.ifCond .eq 20, 3) := by decide +kernel
theorem dX10_cuts_288 : decode cX10_cuts 288 = .ok (.iload_n 3, 1) := by decide +kernel
theorem dX10_cuts_289 : decode cX10_cuts 289 = .ok (.ldc 135, 2) := by decide +kernel
theorem dX10_cuts_291 : decode cX10_cuts 291 = .ok (.if_icmp .eq 9, 3) := by decide +kernel
theorem dX10_cuts_294 : decode cX10_cuts 294 = .ok (.iload 12, 2) := by decide +kernel
theorem dX10_cuts_296 : decode cX10_cuts 296 = .ok (.iload_n 3, 1) := by decide +kernel
theorem dX10_cuts_297 : decode cX10_cuts 297 = .ok (.if_icmp .ge 8, 3) := by decide +kernel
theorem dX10_cuts_300 : decode cX10_cuts 300 = .ok (.iload 12, 2) := by decide +kernel
theorem dX10_cuts_302 : decode cX10_cuts 302 = .ok (.goto 4, 3) := by decide +kernel
theorem dX10_cuts_305 : decode cX10_cuts 305 = .ok (.iload_n 3, 1) := by decide +kernel
theorem dX10_cuts_306 : decode cX10_cuts 306 = .ok (.istore_n 3, 1) := by decide +kernel
theorem dX10_cuts_307 : decode cX10_cuts 307 = .ok (.iinc 10 1, 3) := by decide +kernel
theorem dX10_cuts_310 : decode cX10_cuts 310 = .ok (.goto (-125), 3) := by decide +kernel
theorem dX10_cuts_313 : decode cX10_cuts 313 = .ok (.iinc 9 1, 3) := by decide +kernel
theorem dX10_cuts_316 : decode cX10_cuts 316 = .ok (.goto (-141), 3) := by decide +kernel
theorem dX10_cuts_319 : decode cX10_cuts 319 = .ok (.iinc 4 1, 3) := by decide +kernel
theorem dX10_cuts_322 : decode cX10_cuts 322 = .ok (.goto (-314), 3) := by decide +kernel
theorem dX10_cuts_325 : decode cX10_cuts 325 = .ok (.iload_n 2, 1) := by decide +kernel
theorem dX10_cuts_326 : decode cX10_cuts 326 = .ok (.ifCond .le 46, 3) := by decide +kernel
theorem dX10_cuts_329 : decode cX10_cuts 329 = .ok (.aload_n 0, 1) := by decide +kernel
theorem dX10_cuts_330 : decode cX10_cuts 330 = .ok (.getfield 210, 3) := by decide +kernel
theorem dX10_cuts_333 : decode cX10_cuts 333 = .ok (.ifCond .ne 39, 3) := by decide +kernel
theorem dX10_cuts_336 : decode cX10_cuts 336 = .ok (.iconst 0, 1) := by decide +kernel
theorem dX10_cuts_337 : decode cX10_cuts 337 = .ok (.istore 4, 2) := by decide +kernel
theorem dX10_cuts_339 : decode cX10_cuts 339 = .ok (.iload 4, 2) := by decide +kernel
theorem dX10_cuts_341 : decode cX10_cuts 341 = .ok (.iload_n 1, 1) := by decide +kernel
theorem dX10_cuts_342 : decode cX10_cuts 342 = .ok (.if_icmp .ge 23, 3) := by decide +kernel
theorem dX10_cuts_345 : decode cX10_cuts 345 = .ok (.aload_n 0, 1) := by decide +kernel
theorem dX10_cuts_346 : decode cX10_cuts 346 = .ok (.getfield 87, 3) := by decide +kernel
theorem dX10_cuts_349 : decode cX10_cuts 349 = .ok (.iload 4, 2) := by decide +kernel
theorem dX10_cuts_351 : decode cX10_cuts 351 = .ok (.aload_n 0, 1) := by decide +kernel
theorem dX10_cuts_352 : decode cX10_cuts 352 = .ok (.getfield 84, 3) := by decide +kernel
theorem dX10_cuts_355 : decode cX10_cuts 355 = .ok (.iload 4, 2) := by decide +kernel
theorem dX10_cuts_357 : decode cX10_cuts 357 = .ok (.iaload, 1) := by decide +kernel
theorem dX10_cuts_358 : decode cX10_cuts 358 = .ok (.iastore, 1) := by decide +kernel
theorem dX10_cuts_359 : decode cX10_cuts 359 = .ok (.iinc 4 1, 3) := by decide +kernel
theorem dX10_cuts_362 : decode cX10_cuts 362 = .ok (.goto (-23), 3) := by decide +kernel
theorem dX10_cuts_365 : decode cX10_cuts 365 = .ok (.aload_n 0, 1) := by decide +kernel
theorem dX10_cuts_366 : decode cX10_cuts 366 = .ok (.getfield 87, 3) := by decide +kernel
theorem dX10_cuts_369 : decode cX10_cuts 369 = .ok (.iload_n 1, 1) := by decide +kernel
theorem dX10_cuts_370 : decode cX10_cuts 370 = .ok (.iload_n 3, 1) := by decide +kernel
theorem dX10_cuts_371 : decode cX10_cuts 371 = .ok (.iastore, 1) := by decide +kernel
theorem dX10_cuts_372 : decode cX10_cuts 372 = .ok (.iload_n 2, 1) := by decide +kernel
theorem dX10_cuts_373 : decode cX10_cuts 373 = .ok (.ireturn, 1) := by decide +kernel
theorem dX10_goThrough_0 : decode cX10_goThrough 0 = .ok (.iconst 0, 1) := by decide +kernel
theorem dX10_goThrough_1 : decode cX10_goThrough 1 = .ok (.istore_n 2, 1) := by decide +kernel
theorem dX10_goThrough_2 : decode cX10_goThrough 2 = .ok (.aload_n 0, 1) := by decide +kernel
theorem dX10_goThrough_3 : decode cX10_goThrough 3 = .ok (.getfield 84, 3) := by decide +kernel
theorem dX10_goThrough_6 : decode cX10_goThrough 6 = .ok (.iconst 0, 1) := by decide +kernel
theorem dX10_goThrough_7 : decode cX10_goThrough 7 = .ok (.iconst (-1), 1) := by decide +kernel
theorem dX10_goThrough_8 : decode cX10_goThrough 8 = .ok (.iastore, 1) := by decide +kernel
theorem dX10_goThrough_9 : decode cX10_goThrough 9 = .ok (.iload_n 2, 1) := by decide +kernel
theorem dX10_goThrough_10 : decode cX10_goThrough 10 = .ok (.ifCond .lt 118, 3) := by decide +kernel
theorem dX10_goThrough_13 : decode cX10_goThrough 13 = .ok (.iload_n 2, 1) := by decide +kernel
theorem dX10_goThrough_14 : decode cX10_goThrough 14 = .ok (.iload_n 1, 1) := by decide +kernel
theorem dX10_goThrough_15 : decode cX10_goThrough 15 = .ok (.if_icmp .ne 26, 3) := by decide +kernel
theorem dX10_goThrough_18 : decode cX10_goThrough 18 = .ok (.aload_n 0, 1) := by decide +kernel
theorem dX10_goThrough_19 : decode cX10_goThrough 19 = .ok (.dup, 1) := by decide +kernel
theorem dX10_goThrough_20 : decode cX10_goThrough 20 = .ok (.getfield 210, 3) := by decide +kernel
theorem dX10_goThrough_23 : decode cX10_goThrough 23 = .ok (.aload_n 0, 1) := by decide +kernel
theorem dX10_goThrough_24 : decode cX10_goThrough 24 = .ok (.iload_n 2, 1) := by decide +kernel
theorem dX10_goThrough_25 : decode cX10_goThrough 25 = .ok (.invokevirtual 213, 3) := by decide +kernel
theorem dX10_goThrough_28 : decode cX10_goThrough 28 = .ok (.iadd, 1) := by decide +kernel
theorem dX10_goThrough_29 : decode cX10_goThrough 29 = .ok (.putfield 210, 3) := by decide +kernel
theorem dX10_goThrough_32 : decode cX10_goThrough 32 = .ok (.iinc 2 (-1), 3) := by decide +kernel
theorem dX10_goThrough_35 : decode cX10_goThrough 35 = .ok (.iload_n 2, 1) := by decide +kernel
theorem dX10_goThrough_36 : decode cX10_goThrough 36 = .ok (.ifCond .ge 5, 3) := by decide +kernel
theorem dX10_goThrough_39 : decode cX10_goThrough 39 = .ok (.iconst 1, 1) := by decide +kernel
theorem dX10_goThrough_40 : decode cX10_goThrough 40 = .ok (.ireturn, 1) := by decide +kernel
theorem dX10_goThrough_41 : decode cX10_goThrough 41 = .ok (.aload_n 0, 1) := by decide +kernel
theorem dX10_goThrough_42 : decode cX10_goThrough 42 = .ok (.getfield 84, 3) := by decide +kernel
theorem dX10_goThrough_45 : decode cX10_goThrough 45 = .ok (.iload_n 2, 1) := by decide +kernel
theorem dX10_goThrough_46 : decode cX10_goThrough 46 = .ok (.dup2, 1) := by decide +kernel
theorem dX10_goThrough_47 : decode cX10_goThrough 47 = .ok (.iaload, 1) := by decide +kernel
theorem dX10_goThrough_48 : decode cX10_goThrough 48 = .ok (.iconst 1, 1) := by decide +kernel
theorem dX10_goThrough_49 : decode cX10_goThrough 49 = .ok (.iadd, 1) := by decide +kernel
theorem dX10_goThrough_50 : decode cX10_goThrough 50 = .ok (.iastore, 1) := by decide +kernel
theorem dX10_goThrough_51 : decode cX10_goThrough 51 = .ok (.aload_n 0, 1) := by decide +kernel
theorem dX10_goThrough_52 : decode cX10_goThrough 52 = .ok (.getfield 84, 3) := by decide +kernel
theorem dX10_goThrough_55 : decode cX10_goThrough 55 = .ok (.iload_n 2, 1) := by decide +kernel
theorem dX10_goThrough_56 : decode cX10_goThrough 56 = .ok (.iaload, 1) := by decide +kernel
theorem dX10_goThrough_57 : decode cX10_goThrough 57 = .ok (.sipush 584, 3) := by decide +kernel
theorem dX10_goThrough_60 : decode cX10_goThrough 60 = .ok (.if_icmp .ne 9, 3) := by decide +kernel
theorem dX10_goThrough_63 : decode cX10_goThrough 63 = .ok (.iinc 2 (-1), 3) := by decide +kernel
theorem dX10_goThrough_66 : decode cX10_goThrough 66 = .ok (.goto (-57), 3) := by decide +kernel
theorem dX10_goThrough_69 : decode cX10_goThrough 69 = .ok (.aload_n 0, 1) := by decide +kernel
theorem dX10_goThrough_70 : decode cX10_goThrough 70 = .ok (.iload_n 2, 1) := by decide +kernel
theorem dX10_goThrough_71 : decode cX10_goThrough 71 = .ok (.aload_n 0, 1) := by decide +kernel
theorem dX10_goThrough_72 : decode cX10_goThrough 72 = .ok (.getfield 84, 3) := by decide +kernel
theorem dX10_goThrough_75 : decode cX10_goThrough 75 = .ok (.iload_n 2, 1) := by decide +kernel
theorem dX10_goThrough_76 : decode cX10_goThrough 76 = .ok (.iaload, 1) := by decide +kernel
theorem dX10_goThrough_77 : decode cX10_goThrough 77 = .ok (.invokevirtual 217, 3) := by decide +kernel
theorem dX10_goThrough_80 : decode cX10_goThrough 80 = .ok (.ifCond .eq (-71), 3) := by decide +kernel
theorem dX10_goThrough_83 : decode cX10_goThrough 83 = .ok (.iinc 2 1, 3) := by decide +kernel
theorem dX10_goThrough_86 : decode cX10_goThrough 86 = .ok (.aload_n 0, 1) := by decide +kernel
theorem dX10_goThrough_87 : decode cX10_goThrough 87 = .ok (.iload_n 2, 1) := by decide +kernel
theorem dX10_goThrough_88 : decode cX10_goThrough 88 = .ok (.invokevirtual 220, 3) := by decide +kernel
theorem dX10_goThrough_91 : decode cX10_goThrough 91 = .ok (.iload_n 2, 1) := by decide +kernel
theorem dX10_goThrough_92 : decode cX10_goThrough 92 = .ok (.iload_n 1, 1) := by decide +kernel
theorem dX10_goThrough_93 : decode cX10_goThrough 93 = .ok (.if_icmp .ne 25, 3) := by decide +kernel
theorem dX10_goThrough_96 : decode cX10_goThrough 96 = .ok (.aload_n 0, 1) := by decide +kernel
theorem dX10_goThrough_97 : decode cX10_goThrough 97 = .ok (.dup, 1) := by decide +kernel
theorem dX10_goThrough_98 : decode cX10_goThrough 98 = .ok (.getfield 223, 3) := by decide +kernel
theorem dX10_goThrough_101 : decode cX10_goThrough 101 = .ok (.iconst 1, 1) := by decide +kernel
theorem dX10_goThrough_102 : decode cX10_goThrough 102 = .ok (.iadd, 1) := by decide +kernel
theorem dX10_goThrough_103 : decode cX10_goThrough 103 = .ok (.putfield 223, 3) := by decide +kernel
theorem dX10_goThrough_106 : decode cX10_goThrough 106 = .ok (.aload_n 0, 1) := by decide +kernel
theorem dX10_goThrough_107 : decode cX10_goThrough 107 = .ok (.getfield 223, 3) := by decide +kernel
theorem dX10_goThrough_110 : decode cX10_goThrough 110 = .ok (.sipush 3000, 3) := by decide +kernel
theorem dX10_goThrough_113 : decode cX10_goThrough 113 = .ok (.if_icmp .le (-104), 3) := by decide +kernel
theorem dX10_goThrough_116 : decode cX10_goThrough 116 = .ok (.iconst 0, 1) := by decide +kernel
theorem dX10_goThrough_117 : decode cX10_goThrough 117 = .ok (.ireturn, 1) := by decide +kernel
theorem dX10_goThrough_118 : decode cX10_goThrough 118 = .ok (.aload_n 0, 1) := by decide +kernel
theorem dX10_goThrough_119 : decode cX10_goThrough 119 = .ok (.getfield 84, 3) := by decide +kernel
theorem dX10_goThrough_122 : decode cX10_goThrough 122 = .ok (.iload_n 2, 1) := by decide +kernel
theorem dX10_goThrough_123 : decode cX10_goThrough 123 = .ok (.iconst (-1), 1) := by decide +kernel
theorem dX10_goThrough_124 : decode cX10_goThrough 124 = .ok (.iastore, 1) := by decide +kernel
theorem dX10_goThrough_125 : decode cX10_goThrough 125 = .ok (.goto (-116), 3) := by decide +kernel
theorem dX10_goThrough_128 : decode cX10_goThrough 128 = .ok (.iconst 1, 1) := by decide +kernel
theorem dX10_goThrough_129 : decode cX10_goThrough 129 = .ok (.ireturn, 1) := by decide +kernel
theorem dX10_look_0 : decode cX10_look 0 = .ok (.iconst 0, 1) := by decide +kernel
theorem dX10_look_1 : decode cX10_look 1 = .ok (.istore_n 2, 1) := by decide +kernel
theorem dX10_look_2 : decode cX10_look 2 = .ok (.iload_n 2, 1) := by decide +kernel
theorem dX10_look_3 : decode cX10_look 3 = .ok (.aload_n 0, 1) := by decide +kernel
theorem dX10_look_4 : decode cX10_look 4 = .ok (.invokevirtual 97, 3) := by decide +kernel
theorem dX10_look_7 : decode cX10_look 7 = .ok (.if_icmp .ge 46, 3) := by decide +kernel
theorem dX10_look_10 : decode cX10_look 10 = .ok (.aload_n 0, 1) := by decide +kernel
theorem dX10_look_11 : decode cX10_look 11 = .ok (.getfield 66, 3) := by decide +kernel
theorem dX10_look_14 : decode cX10_look 14 = .ok (.iload_n 2, 1) := by decide +kernel
theorem dX10_look_15 : decode cX10_look 15 = .ok (.iload_n 2, 1) := by decide +kernel
theorem dX10_look_16 : decode cX10_look 16 = .ok (.iconst 4, 1) := by decide +kernel
theorem dX10_look_17 : decode cX10_look 17 = .ok (.idiv, 1) := by decide +kernel
theorem dX10_look_18 : decode cX10_look 18 = .ok (.aload_n 0, 1) := by decide +kernel
theorem dX10_look_19 : decode cX10_look 19 = .ok (.getfield 7, 3) := by decide +kernel
theorem dX10_look_22 : decode cX10_look 22 = .ok (.irem, 1) := by decide +kernel
theorem dX10_look_23 : decode cX10_look 23 = .ok (.iastore, 1) := by decide +kernel
theorem dX10_look_24 : decode cX10_look 24 = .ok (.aload_n 0, 1) := by decide +kernel
theorem dX10_look_25 : decode cX10_look 25 = .ok (.getfield 69, 3) := by decide +kernel
theorem dX10_look_28 : decode cX10_look 28 = .ok (.iload_n 2, 1) := by decide +kernel
theorem dX10_look_29 : decode cX10_look 29 = .ok (.iload_n 2, 1) := by decide +kernel
theorem dX10_look_30 : decode cX10_look 30 = .ok (.iconst 4, 1) := by decide +kernel
theorem dX10_look_31 : decode cX10_look 31 = .ok (.idiv, 1) := by decide +kernel
theorem dX10_look_32 : decode cX10_look 32 = .ok (.aload_n 0, 1) := by decide +kernel
theorem dX10_look_33 : decode cX10_look 33 = .ok (.getfield 7, 3) := by decide +kernel
theorem dX10_look_36 : decode cX10_look 36 = .ok (.idiv, 1) := by decide +kernel
theorem dX10_look_37 : decode cX10_look 37 = .ok (.iastore, 1) := by decide +kernel
theorem dX10_look_38 : decode cX10_look 38 = .ok (.aload_n 0, 1) := by decide +kernel
theorem dX10_look_39 : decode cX10_look 39 = .ok (.getfield 72, 3) := by decide +kernel
theorem dX10_look_42 : decode cX10_look 42 = .ok (.iload_n 2, 1) := by decide +kernel
theorem dX10_look_43 : decode cX10_look 43 = .ok (.iload_n 2, 1) := by decide +kernel
theorem dX10_look_44 : decode cX10_look 44 = .ok (.iconst 4, 1) := by decide +kernel
theorem dX10_look_45 : decode cX10_look 45 = .ok (.irem, 1) := by decide +kernel
theorem dX10_look_46 : decode cX10_look 46 = .ok (.iastore, 1) := by decide +kernel
theorem dX10_look_47 : decode cX10_look 47 = .ok (.iinc 2 1, 3) := by decide +kernel
theorem dX10_look_50 : decode cX10_look 50 = .ok (.goto (-48), 3) := by decide +kernel
theorem dX10_look_53 : decode cX10_look 53 = .ok (.aload_n 0, 1) := by decide +kernel
theorem dX10_look_54 : decode cX10_look 54 = .ok (.iconst 0, 1) := by decide +kernel
theorem dX10_look_55 : decode cX10_look 55 = .ok (.invokevirtual 220, 3) := by decide +kernel
theorem dX10_look_58 : decode cX10_look 58 = .ok (.aload_n 0, 1) := by decide +kernel
theorem dX10_look_59 : decode cX10_look 59 = .ok (.iconst 0, 1) := by decide +kernel
theorem dX10_look_60 : decode cX10_look 60 = .ok (.putfield 223, 3) := by decide +kernel
theorem dX10_look_63 : decode cX10_look 63 = .ok (.aload_n 0, 1) := by decide +kernel
theorem dX10_look_64 : decode cX10_look 64 = .ok (.iconst 0, 1) := by decide +kernel
theorem dX10_look_65 : decode cX10_look 65 = .ok (.putfield 210, 3) := by decide +kernel
theorem dX10_look_68 : decode cX10_look 68 = .ok (.iconst 0, 1) := by decide +kernel
theorem dX10_look_69 : decode cX10_look 69 = .ok (.istore_n 2, 1) := by decide +kernel
theorem dX10_look_70 : decode cX10_look 70 = .ok (.iload_n 2, 1) := by decide +kernel
theorem dX10_look_71 : decode cX10_look 71 = .ok (.iload_n 1, 1) := by decide +kernel
theorem dX10_look_72 : decode cX10_look 72 = .ok (.if_icmp .gt 29, 3) := by decide +kernel
theorem dX10_look_75 : decode cX10_look 75 = .ok (.aload_n 0, 1) := by decide +kernel
theorem dX10_look_76 : decode cX10_look 76 = .ok (.iload_n 2, 1) := by decide +kernel
theorem dX10_look_77 : decode cX10_look 77 = .ok (.invokevirtual 226, 3) := by decide +kernel
theorem dX10_look_80 : decode cX10_look 80 = .ok (.ifCond .ne 6, 3) := by decide +kernel
theorem dX10_look_83 : decode cX10_look 83 = .ok (.bipush (-5), 2) := by decide +kernel
theorem dX10_look_85 : decode cX10_look 85 = .ok (.ireturn, 1) := by decide +kernel
theorem dX10_look_86 : decode cX10_look 86 = .ok (.aload_n 0, 1) := by decide +kernel
theorem dX10_look_87 : decode cX10_look 87 = .ok (.getfield 210, 3) := by decide +kernel
theorem dX10_look_90 : decode cX10_look 90 = .ok (.ifCond .le 5, 3) := by decide +kernel
theorem dX10_look_93 : decode cX10_look 93 = .ok (.iload_n 2, 1) := by decide +kernel
theorem dX10_look_94 : decode cX10_look 94 = .ok (.ireturn, 1) := by decide +kernel
theorem dX10_look_95 : decode cX10_look 95 = .ok (.iinc 2 1, 3) := by decide +kernel
theorem dX10_look_98 : decode cX10_look 98 = .ok (.goto (-28), 3) := by decide +kernel
theorem dX10_look_101 : decode cX10_look 101 = .ok (.ldc 135, 2) := by decide +kernel
theorem dX10_look_103 : decode cX10_look 103 = .ok (.ireturn, 1) := by decide +kernel
theorem dX10_fewest_0 : decode cX10_fewest 0 = .ok (.aload_n 0, 1) := by decide +kernel
theorem dX10_fewest_1 : decode cX10_fewest 1 = .ok (.iconst 0, 1) := by decide +kernel
theorem dX10_fewest_2 : decode cX10_fewest 2 = .ok (.putfield 94, 3) := by decide +kernel
theorem dX10_fewest_5 : decode cX10_fewest 5 = .ok (.iload_n 1, 1) := by decide +kernel
theorem dX10_fewest_6 : decode cX10_fewest 6 = .ok (.i2l, 1) := by decide +kernel
theorem dX10_fewest_7 : decode cX10_fewest 7 = .ok (.lconst 0, 1) := by decide +kernel
theorem dX10_fewest_8 : decode cX10_fewest 8 = .ok (.ldc2_w 105, 3) := by decide +kernel
theorem dX10_fewest_11 : decode cX10_fewest 11 = .ok (.invokestatic 101, 3) := by decide +kernel
theorem dX10_fewest_14 : decode cX10_fewest 14 = .ok (.ifCond .eq 11, 3) := by decide +kernel
theorem dX10_fewest_17 : decode cX10_fewest 17 = .ok (.aload_n 0, 1) := by decide +kernel
theorem dX10_fewest_18 : decode cX10_fewest 18 = .ok (.iload_n 1, 1) := by decide +kernel
theorem dX10_fewest_19 : decode cX10_fewest 19 = .ok (.invokevirtual 229, 3) := by decide +kernel
theorem dX10_fewest_22 : decode cX10_fewest 22 = .ok (.goto 5, 3) := by decide +kernel
theorem dX10_fewest_25 : decode cX10_fewest 25 = .ok (.bipush (-2), 2) := by decide +kernel
theorem dX10_fewest_27 : decode cX10_fewest 27 = .ok (.ireturn, 1) := by decide +kernel
theorem dX10_way_0 : decode cX10_way 0 = .ok (.aload_n 0, 1) := by decide +kernel
theorem dX10_way_1 : decode cX10_way 1 = .ok (.iconst 0, 1) := by decide +kernel
theorem dX10_way_2 : decode cX10_way 2 = .ok (.putfield 94, 3) := by decide +kernel
theorem dX10_way_5 : decode cX10_way 5 = .ok (.iload_n 1, 1) := by decide +kernel
theorem dX10_way_6 : decode cX10_way 6 = .ok (.i2l, 1) := by decide +kernel
theorem dX10_way_7 : decode cX10_way 7 = .ok (.lconst 0, 1) := by decide +kernel
theorem dX10_way_8 : decode cX10_way 8 = .ok (.ldc2_w 105, 3) := by decide +kernel
theorem dX10_way_11 : decode cX10_way 11 = .ok (.invokestatic 101, 3) := by decide +kernel
theorem dX10_way_14 : decode cX10_way 14 = .ok (.ifCond .ne 6, 3) := by decide +kernel
theorem dX10_way_17 : decode cX10_way 17 = .ok (.bipush (-2), 2) := by decide +kernel
theorem dX10_way_19 : decode cX10_way 19 = .ok (.ireturn, 1) := by decide +kernel
theorem dX10_way_20 : decode cX10_way 20 = .ok (.aload_n 0, 1) := by decide +kernel
theorem dX10_way_21 : decode cX10_way 21 = .ok (.iload_n 1, 1) := by decide +kernel
theorem dX10_way_22 : decode cX10_way 22 = .ok (.invokevirtual 229, 3) := by decide +kernel
theorem dX10_way_25 : decode cX10_way 25 = .ok (.istore_n 3, 1) := by decide +kernel
theorem dX10_way_26 : decode cX10_way 26 = .ok (.iload_n 3, 1) := by decide +kernel
theorem dX10_way_27 : decode cX10_way 27 = .ok (.bipush (-5), 2) := by decide +kernel
theorem dX10_way_29 : decode cX10_way 29 = .ok (.if_icmp .ne 6, 3) := by decide +kernel
theorem dX10_way_32 : decode cX10_way 32 = .ok (.bipush (-5), 2) := by decide +kernel
theorem dX10_way_34 : decode cX10_way 34 = .ok (.ireturn, 1) := by decide +kernel
theorem dX10_way_35 : decode cX10_way 35 = .ok (.iload_n 3, 1) := by decide +kernel
theorem dX10_way_36 : decode cX10_way 36 = .ok (.ldc 135, 2) := by decide +kernel
theorem dX10_way_38 : decode cX10_way 38 = .ok (.if_icmp .eq 14, 3) := by decide +kernel
theorem dX10_way_41 : decode cX10_way 41 = .ok (.iload_n 2, 1) := by decide +kernel
theorem dX10_way_42 : decode cX10_way 42 = .ok (.i2l, 1) := by decide +kernel
theorem dX10_way_43 : decode cX10_way 43 = .ok (.lconst 0, 1) := by decide +kernel
theorem dX10_way_44 : decode cX10_way 44 = .ok (.iload_n 3, 1) := by decide +kernel
theorem dX10_way_45 : decode cX10_way 45 = .ok (.i2l, 1) := by decide +kernel
theorem dX10_way_46 : decode cX10_way 46 = .ok (.invokestatic 101, 3) := by decide +kernel
theorem dX10_way_49 : decode cX10_way 49 = .ok (.ifCond .ne 6, 3) := by decide +kernel
theorem dX10_way_52 : decode cX10_way 52 = .ok (.ldc 135, 2) := by decide +kernel
theorem dX10_way_54 : decode cX10_way 54 = .ok (.ireturn, 1) := by decide +kernel
theorem dX10_way_55 : decode cX10_way 55 = .ok (.aload_n 0, 1) := by decide +kernel
theorem dX10_way_56 : decode cX10_way 56 = .ok (.getfield 87, 3) := by decide +kernel
theorem dX10_way_59 : decode cX10_way 59 = .ok (.iload_n 2, 1) := by decide +kernel
theorem dX10_way_60 : decode cX10_way 60 = .ok (.iaload, 1) := by decide +kernel
theorem dX10_way_61 : decode cX10_way 61 = .ok (.istore 4, 2) := by decide +kernel
theorem dX10_way_63 : decode cX10_way 63 = .ok (.bipush 100, 2) := by decide +kernel
theorem dX10_way_65 : decode cX10_way 65 = .ok (.iload 4, 2) := by decide +kernel
theorem dX10_way_67 : decode cX10_way 67 = .ok (.bipush 8, 2) := by decide +kernel
theorem dX10_way_69 : decode cX10_way 69 = .ok (.idiv, 1) := by decide +kernel
theorem dX10_way_70 : decode cX10_way 70 = .ok (.bipush (-24), 2) := by decide +kernel
theorem dX10_way_72 : decode cX10_way 72 = .ok (.iadd, 1) := by decide +kernel
theorem dX10_way_73 : decode cX10_way 73 = .ok (.imul, 1) := by decide +kernel
theorem dX10_way_74 : decode cX10_way 74 = .ok (.sipush 1000, 3) := by decide +kernel
theorem dX10_way_77 : decode cX10_way 77 = .ok (.iadd, 1) := by decide +kernel
theorem dX10_way_78 : decode cX10_way 78 = .ok (.bipush 10, 2) := by decide +kernel
theorem dX10_way_80 : decode cX10_way 80 = .ok (.iload 4, 2) := by decide +kernel
theorem dX10_way_82 : decode cX10_way 82 = .ok (.bipush 8, 2) := by decide +kernel
theorem dX10_way_84 : decode cX10_way 84 = .ok (.irem, 1) := by decide +kernel
theorem dX10_way_85 : decode cX10_way 85 = .ok (.iconst 2, 1) := by decide +kernel
theorem dX10_way_86 : decode cX10_way 86 = .ok (.idiv, 1) := by decide +kernel
theorem dX10_way_87 : decode cX10_way 87 = .ok (.imul, 1) := by decide +kernel
theorem dX10_way_88 : decode cX10_way 88 = .ok (.iadd, 1) := by decide +kernel
theorem dX10_way_89 : decode cX10_way 89 = .ok (.iload 4, 2) := by decide +kernel
theorem dX10_way_91 : decode cX10_way 91 = .ok (.iconst 2, 1) := by decide +kernel
theorem dX10_way_92 : decode cX10_way 92 = .ok (.irem, 1) := by decide +kernel
theorem dX10_way_93 : decode cX10_way 93 = .ok (.iadd, 1) := by decide +kernel
theorem dX10_way_94 : decode cX10_way 94 = .ok (.ireturn, 1) := by decide +kernel
theorem dX10_ways_0 : decode cX10_ways 0 = .ok (.aload_n 0, 1) := by decide +kernel
theorem dX10_ways_1 : decode cX10_ways 1 = .ok (.iconst 0, 1) := by decide +kernel
theorem dX10_ways_2 : decode cX10_ways 2 = .ok (.putfield 94, 3) := by decide +kernel
theorem dX10_ways_5 : decode cX10_ways 5 = .ok (.iload_n 1, 1) := by decide +kernel
theorem dX10_ways_6 : decode cX10_ways 6 = .ok (.i2l, 1) := by decide +kernel
theorem dX10_ways_7 : decode cX10_ways 7 = .ok (.lconst 0, 1) := by decide +kernel
theorem dX10_ways_8 : decode cX10_ways 8 = .ok (.ldc2_w 105, 3) := by decide +kernel
theorem dX10_ways_11 : decode cX10_ways 11 = .ok (.invokestatic 101, 3) := by decide +kernel
theorem dX10_ways_14 : decode cX10_ways 14 = .ok (.ifCond .ne 6, 3) := by decide +kernel
theorem dX10_ways_17 : decode cX10_ways 17 = .ok (.bipush (-2), 2) := by decide +kernel
theorem dX10_ways_19 : decode cX10_ways 19 = .ok (.ireturn, 1) := by decide +kernel
theorem dX10_ways_20 : decode cX10_ways 20 = .ok (.aload_n 0, 1) := by decide +kernel
theorem dX10_ways_21 : decode cX10_ways 21 = .ok (.iload_n 1, 1) := by decide +kernel
theorem dX10_ways_22 : decode cX10_ways 22 = .ok (.invokevirtual 229, 3) := by decide +kernel
theorem dX10_ways_25 : decode cX10_ways 25 = .ok (.bipush (-5), 2) := by decide +kernel
theorem dX10_ways_27 : decode cX10_ways 27 = .ok (.if_icmp .ne 8, 3) := by decide +kernel
theorem dX10_ways_30 : decode cX10_ways 30 = .ok (.bipush (-5), 2) := by decide +kernel
theorem dX10_ways_32 : decode cX10_ways 32 = .ok (.goto 7, 3) := by decide +kernel
theorem dX10_ways_35 : decode cX10_ways 35 = .ok (.aload_n 0, 1) := by decide +kernel
theorem dX10_ways_36 : decode cX10_ways 36 = .ok (.getfield 210, 3) := by decide +kernel
theorem dX10_ways_39 : decode cX10_ways 39 = .ok (.ireturn, 1) := by decide +kernel
theorem dX10_count_0 : decode cX10_count 0 = .ok (.aload_n 0, 1) := by decide +kernel
theorem dX10_count_1 : decode cX10_count 1 = .ok (.iconst 0, 1) := by decide +kernel
theorem dX10_count_2 : decode cX10_count 2 = .ok (.putfield 94, 3) := by decide +kernel
theorem dX10_count_5 : decode cX10_count 5 = .ok (.iconst 0, 1) := by decide +kernel
theorem dX10_count_6 : decode cX10_count 6 = .ok (.istore_n 2, 1) := by decide +kernel
theorem dX10_count_7 : decode cX10_count 7 = .ok (.iconst 0, 1) := by decide +kernel
theorem dX10_count_8 : decode cX10_count 8 = .ok (.istore_n 3, 1) := by decide +kernel
theorem dX10_count_9 : decode cX10_count 9 = .ok (.iconst 0, 1) := by decide +kernel
theorem dX10_count_10 : decode cX10_count 10 = .ok (.istore 4, 2) := by decide +kernel
theorem dX10_count_12 : decode cX10_count 12 = .ok (.iload 4, 2) := by decide +kernel
theorem dX10_count_14 : decode cX10_count 14 = .ok (.aload_n 0, 1) := by decide +kernel
theorem dX10_count_15 : decode cX10_count 15 = .ok (.invokevirtual 97, 3) := by decide +kernel
theorem dX10_count_18 : decode cX10_count 18 = .ok (.if_icmp .ge 45, 3) := by decide +kernel
theorem dX10_count_21 : decode cX10_count 21 = .ok (.iload_n 2, 1) := by decide +kernel
theorem dX10_count_22 : decode cX10_count 22 = .ok (.aload_n 0, 1) := by decide +kernel
theorem dX10_count_23 : decode cX10_count 23 = .ok (.getfield 57, 3) := by decide +kernel
theorem dX10_count_26 : decode cX10_count 26 = .ok (.iload 4, 2) := by decide +kernel
theorem dX10_count_28 : decode cX10_count 28 = .ok (.baload, 1) := by decide +kernel
theorem dX10_count_29 : decode cX10_count 29 = .ok (.ifCond .eq 7, 3) := by decide +kernel
theorem dX10_count_32 : decode cX10_count 32 = .ok (.iconst 1, 1) := by decide +kernel
theorem dX10_count_33 : decode cX10_count 33 = .ok (.goto 4, 3) := by decide +kernel
theorem dX10_count_36 : decode cX10_count 36 = .ok (.iconst 0, 1) := by decide +kernel
theorem dX10_count_37 : decode cX10_count 37 = .ok (.iadd, 1) := by decide +kernel
theorem dX10_count_38 : decode cX10_count 38 = .ok (.istore_n 2, 1) := by decide +kernel
theorem dX10_count_39 : decode cX10_count 39 = .ok (.iload_n 3, 1) := by decide +kernel
theorem dX10_count_40 : decode cX10_count 40 = .ok (.aload_n 0, 1) := by decide +kernel
theorem dX10_count_41 : decode cX10_count 41 = .ok (.getfield 26, 3) := by decide +kernel
theorem dX10_count_44 : decode cX10_count 44 = .ok (.iload 4, 2) := by decide +kernel
theorem dX10_count_46 : decode cX10_count 46 = .ok (.baload, 1) := by decide +kernel
theorem dX10_count_47 : decode cX10_count 47 = .ok (.ifCond .eq 7, 3) := by decide +kernel
theorem dX10_count_50 : decode cX10_count 50 = .ok (.iconst 0, 1) := by decide +kernel
theorem dX10_count_51 : decode cX10_count 51 = .ok (.goto 4, 3) := by decide +kernel
theorem dX10_count_54 : decode cX10_count 54 = .ok (.iconst 1, 1) := by decide +kernel
theorem dX10_count_55 : decode cX10_count 55 = .ok (.iadd, 1) := by decide +kernel
theorem dX10_count_56 : decode cX10_count 56 = .ok (.istore_n 3, 1) := by decide +kernel
theorem dX10_count_57 : decode cX10_count 57 = .ok (.iinc 4 1, 3) := by decide +kernel
theorem dX10_count_60 : decode cX10_count 60 = .ok (.goto (-48), 3) := by decide +kernel
theorem dX10_count_63 : decode cX10_count 63 = .ok (.iload_n 1, 1) := by decide +kernel
theorem dX10_count_64 : decode cX10_count 64 = .ok (.ifCond .ne 10, 3) := by decide +kernel
theorem dX10_count_67 : decode cX10_count 67 = .ok (.aload_n 0, 1) := by decide +kernel
theorem dX10_count_68 : decode cX10_count 68 = .ok (.invokevirtual 97, 3) := by decide +kernel
theorem dX10_count_71 : decode cX10_count 71 = .ok (.goto 47, 3) := by decide +kernel
theorem dX10_count_74 : decode cX10_count 74 = .ok (.iload_n 1, 1) := by decide +kernel
theorem dX10_count_75 : decode cX10_count 75 = .ok (.iconst 1, 1) := by decide +kernel
theorem dX10_count_76 : decode cX10_count 76 = .ok (.if_icmp .ne 7, 3) := by decide +kernel
theorem dX10_count_79 : decode cX10_count 79 = .ok (.iload_n 2, 1) := by decide +kernel
theorem dX10_count_80 : decode cX10_count 80 = .ok (.goto 38, 3) := by decide +kernel
theorem dX10_count_83 : decode cX10_count 83 = .ok (.iload_n 1, 1) := by decide +kernel
theorem dX10_count_84 : decode cX10_count 84 = .ok (.iconst 2, 1) := by decide +kernel
theorem dX10_count_85 : decode cX10_count 85 = .ok (.if_icmp .ne 10, 3) := by decide +kernel
theorem dX10_count_88 : decode cX10_count 88 = .ok (.aload_n 0, 1) := by decide +kernel
theorem dX10_count_89 : decode cX10_count 89 = .ok (.invokevirtual 199, 3) := by decide +kernel
theorem dX10_count_92 : decode cX10_count 92 = .ok (.goto 26, 3) := by decide +kernel
theorem dX10_count_95 : decode cX10_count 95 = .ok (.iload_n 1, 1) := by decide +kernel
theorem dX10_count_96 : decode cX10_count 96 = .ok (.iconst 3, 1) := by decide +kernel
theorem dX10_count_97 : decode cX10_count 97 = .ok (.if_icmp .ne 7, 3) := by decide +kernel
theorem dX10_count_100 : decode cX10_count 100 = .ok (.iload_n 3, 1) := by decide +kernel
theorem dX10_count_101 : decode cX10_count 101 = .ok (.goto 17, 3) := by decide +kernel
theorem dX10_count_104 : decode cX10_count 104 = .ok (.iload_n 1, 1) := by decide +kernel
theorem dX10_count_105 : decode cX10_count 105 = .ok (.iconst 4, 1) := by decide +kernel
theorem dX10_count_106 : decode cX10_count 106 = .ok (.if_icmp .ne 10, 3) := by decide +kernel
theorem dX10_count_109 : decode cX10_count 109 = .ok (.aload_n 0, 1) := by decide +kernel
theorem dX10_count_110 : decode cX10_count 110 = .ok (.getfield 7, 3) := by decide +kernel
theorem dX10_count_113 : decode cX10_count 113 = .ok (.goto 5, 3) := by decide +kernel
theorem dX10_count_116 : decode cX10_count 116 = .ok (.bipush (-2), 2) := by decide +kernel
theorem dX10_count_118 : decode cX10_count 118 = .ok (.ireturn, 1) := by decide +kernel
theorem dJ9_abs_0f7a4_0 : decode cJ9_abs_0f7a4 0 = .ok (.iload_n 0, 1) := by decide +kernel
theorem dJ9_abs_0f7a4_1 : decode cJ9_abs_0f7a4 1 = .ok (.ifCond .ge 8, 3) := by decide +kernel
theorem dJ9_abs_0f7a4_4 : decode cJ9_abs_0f7a4 4 = .ok (.iload_n 0, 1) := by decide +kernel
theorem dJ9_abs_0f7a4_5 : decode cJ9_abs_0f7a4 5 = .ok (.ineg, 1) := by decide +kernel
theorem dJ9_abs_0f7a4_6 : decode cJ9_abs_0f7a4 6 = .ok (.goto 4, 3) := by decide +kernel
theorem dJ9_abs_0f7a4_9 : decode cJ9_abs_0f7a4 9 = .ok (.iload_n 0, 1) := by decide +kernel
theorem dJ9_abs_0f7a4_10 : decode cJ9_abs_0f7a4 10 = .ok (.ireturn, 1) := by decide +kernel
theorem dJ9_max_7cf53_0 : decode cJ9_max_7cf53 0 = .ok (.iload_n 0, 1) := by decide +kernel
theorem dJ9_max_7cf53_1 : decode cJ9_max_7cf53 1 = .ok (.iload_n 1, 1) := by decide +kernel
theorem dJ9_max_7cf53_2 : decode cJ9_max_7cf53 2 = .ok (.if_icmp .lt 7, 3) := by decide +kernel
theorem dJ9_max_7cf53_5 : decode cJ9_max_7cf53 5 = .ok (.iload_n 0, 1) := by decide +kernel
theorem dJ9_max_7cf53_6 : decode cJ9_max_7cf53 6 = .ok (.goto 4, 3) := by decide +kernel
theorem dJ9_max_7cf53_9 : decode cJ9_max_7cf53 9 = .ok (.iload_n 1, 1) := by decide +kernel
theorem dJ9_max_7cf53_10 : decode cJ9_max_7cf53 10 = .ok (.ireturn, 1) := by decide +kernel
theorem dJ9_min_7cf53_0 : decode cJ9_min_7cf53 0 = .ok (.iload_n 0, 1) := by decide +kernel
theorem dJ9_min_7cf53_1 : decode cJ9_min_7cf53 1 = .ok (.iload_n 1, 1) := by decide +kernel
theorem dJ9_min_7cf53_2 : decode cJ9_min_7cf53 2 = .ok (.if_icmp .gt 7, 3) := by decide +kernel
theorem dJ9_min_7cf53_5 : decode cJ9_min_7cf53 5 = .ok (.iload_n 0, 1) := by decide +kernel
theorem dJ9_min_7cf53_6 : decode cJ9_min_7cf53 6 = .ok (.goto 4, 3) := by decide +kernel
theorem dJ9_min_7cf53_9 : decode cJ9_min_7cf53 9 = .ok (.iload_n 1, 1) := by decide +kernel
theorem dJ9_min_7cf53_10 : decode cJ9_min_7cf53 10 = .ok (.ireturn, 1) := by decide +kernel
theorem dJ7_fill_53178_0 : decode cJ7_fill_53178 0 = .ok (.iconst 0, 1) := by decide +kernel
theorem dJ7_fill_53178_1 : decode cJ7_fill_53178 1 = .ok (.istore_n 2, 1) := by decide +kernel
theorem dJ7_fill_53178_2 : decode cJ7_fill_53178 2 = .ok (.aload_n 0, 1) := by decide +kernel
theorem dJ7_fill_53178_3 : decode cJ7_fill_53178 3 = .ok (.arraylength, 1) := by decide +kernel
theorem dJ7_fill_53178_4 : decode cJ7_fill_53178 4 = .ok (.istore_n 3, 1) := by decide +kernel
theorem dJ7_fill_53178_5 : decode cJ7_fill_53178 5 = .ok (.iload_n 2, 1) := by decide +kernel
theorem dJ7_fill_53178_6 : decode cJ7_fill_53178 6 = .ok (.iload_n 3, 1) := by decide +kernel
theorem dJ7_fill_53178_7 : decode cJ7_fill_53178 7 = .ok (.if_icmp .ge 13, 3) := by decide +kernel
theorem dJ7_fill_53178_10 : decode cJ7_fill_53178 10 = .ok (.aload_n 0, 1) := by decide +kernel
theorem dJ7_fill_53178_11 : decode cJ7_fill_53178 11 = .ok (.iload_n 2, 1) := by decide +kernel
theorem dJ7_fill_53178_12 : decode cJ7_fill_53178 12 = .ok (.iload_n 1, 1) := by decide +kernel
theorem dJ7_fill_53178_13 : decode cJ7_fill_53178 13 = .ok (.iastore, 1) := by decide +kernel
theorem dJ7_fill_53178_14 : decode cJ7_fill_53178 14 = .ok (.iinc 2 1, 3) := by decide +kernel
theorem dJ7_fill_53178_17 : decode cJ7_fill_53178 17 = .ok (.goto (-12), 3) := by decide +kernel
theorem dJ7_fill_53178_20 : decode cJ7_fill_53178 20 = .ok (.return_, 1) := by decide +kernel
theorem dL_law_0 : decode cL_law 0 = .ok (.new 7, 3) := by decide +kernel
theorem dL_law_3 : decode cL_law 3 = .ok (.dup, 1) := by decide +kernel
theorem dL_law_4 : decode cL_law 4 = .ok (.invokespecial 9, 3) := by decide +kernel
theorem dL_law_7 : decode cL_law 7 = .ok (.astore_n 1, 1) := by decide +kernel
theorem dL_law_8 : decode cL_law 8 = .ok (.new 10, 3) := by decide +kernel
theorem dL_law_11 : decode cL_law 11 = .ok (.dup, 1) := by decide +kernel
theorem dL_law_12 : decode cL_law 12 = .ok (.invokespecial 12, 3) := by decide +kernel
theorem dL_law_15 : decode cL_law 15 = .ok (.astore_n 2, 1) := by decide +kernel
theorem dL_law_16 : decode cL_law 16 = .ok (.iconst 0, 1) := by decide +kernel
theorem dL_law_17 : decode cL_law 17 = .ok (.istore_n 3, 1) := by decide +kernel
theorem dL_law_18 : decode cL_law 18 = .ok (.iload_n 3, 1) := by decide +kernel
theorem dL_law_19 : decode cL_law 19 = .ok (.aload_n 0, 1) := by decide +kernel
theorem dL_law_20 : decode cL_law 20 = .ok (.arraylength, 1) := by decide +kernel
theorem dL_law_21 : decode cL_law 21 = .ok (.iconst 5, 1) := by decide +kernel
theorem dL_law_22 : decode cL_law 22 = .ok (.isub, 1) := by decide +kernel
theorem dL_law_23 : decode cL_law 23 = .ok (.if_icmp .gt 1173, 3) := by decide +kernel
theorem dL_law_26 : decode cL_law 26 = .ok (.aload_n 0, 1) := by decide +kernel
theorem dL_law_27 : decode cL_law 27 = .ok (.iload_n 3, 1) := by decide +kernel
theorem dL_law_28 : decode cL_law 28 = .ok (.iaload, 1) := by decide +kernel
theorem dL_law_29 : decode cL_law 29 = .ok (.bipush 31, 2) := by decide +kernel
theorem dL_law_31 : decode cL_law 31 = .ok (.iand, 1) := by decide +kernel
theorem dL_law_32 : decode cL_law 32 = .ok (.tableswitch 1158 0 31 #[144, 167, 236, 249, 282, 335, 348, 361, 384, 397, 430, 463, 502, 561, 620, 643, 676, 719, 762, 801, 814, 853, 876, 925, 984, 997, 1010, 1043, 1056, 1079, 1112, 1135], 144) := by decide +kernel
theorem dL_law_176 : decode cL_law 176 = .ok (.aload_n 1, 1) := by decide +kernel
theorem dL_law_177 : decode cL_law 177 = .ok (.aload_n 0, 1) := by decide +kernel
theorem dL_law_178 : decode cL_law 178 = .ok (.iload_n 3, 1) := by decide +kernel
theorem dL_law_179 : decode cL_law 179 = .ok (.iconst 1, 1) := by decide +kernel
theorem dL_law_180 : decode cL_law 180 = .ok (.iadd, 1) := by decide +kernel
theorem dL_law_181 : decode cL_law 181 = .ok (.iaload, 1) := by decide +kernel
theorem dL_law_182 : decode cL_law 182 = .ok (.invokevirtual 13, 3) := by decide +kernel
theorem dL_law_185 : decode cL_law 185 = .ok (.aload_n 2, 1) := by decide +kernel
theorem dL_law_186 : decode cL_law 186 = .ok (.aload_n 0, 1) := by decide +kernel
theorem dL_law_187 : decode cL_law 187 = .ok (.iload_n 3, 1) := by decide +kernel
theorem dL_law_188 : decode cL_law 188 = .ok (.iconst 1, 1) := by decide +kernel
theorem dL_law_189 : decode cL_law 189 = .ok (.iadd, 1) := by decide +kernel
theorem dL_law_190 : decode cL_law 190 = .ok (.iaload, 1) := by decide +kernel
theorem dL_law_191 : decode cL_law 191 = .ok (.invokevirtual 17, 3) := by decide +kernel
theorem dL_law_194 : decode cL_law 194 = .ok (.if_icmp .eq 996, 3) := by decide +kernel
theorem dL_law_197 : decode cL_law 197 = .ok (.iconst 0, 1) := by decide +kernel
theorem dL_law_198 : decode cL_law 198 = .ok (.ireturn, 1) := by decide +kernel
theorem dL_law_199 : decode cL_law 199 = .ok (.aload_n 1, 1) := by decide +kernel
theorem dL_law_200 : decode cL_law 200 = .ok (.aload_n 0, 1) := by decide +kernel
theorem dL_law_201 : decode cL_law 201 = .ok (.iload_n 3, 1) := by decide +kernel
theorem dL_law_202 : decode cL_law 202 = .ok (.iconst 1, 1) := by decide +kernel
theorem dL_law_203 : decode cL_law 203 = .ok (.iadd, 1) := by decide +kernel
theorem dL_law_204 : decode cL_law 204 = .ok (.iaload, 1) := by decide +kernel
theorem dL_law_205 : decode cL_law 205 = .ok (.aload_n 0, 1) := by decide +kernel
theorem dL_law_206 : decode cL_law 206 = .ok (.iload_n 3, 1) := by decide +kernel
theorem dL_law_207 : decode cL_law 207 = .ok (.iconst 2, 1) := by decide +kernel
theorem dL_law_208 : decode cL_law 208 = .ok (.iadd, 1) := by decide +kernel
theorem dL_law_209 : decode cL_law 209 = .ok (.iaload, 1) := by decide +kernel
theorem dL_law_210 : decode cL_law 210 = .ok (.aload_n 0, 1) := by decide +kernel
theorem dL_law_211 : decode cL_law 211 = .ok (.iload_n 3, 1) := by decide +kernel
theorem dL_law_212 : decode cL_law 212 = .ok (.iconst 3, 1) := by decide +kernel
theorem dL_law_213 : decode cL_law 213 = .ok (.iadd, 1) := by decide +kernel
theorem dL_law_214 : decode cL_law 214 = .ok (.iaload, 1) := by decide +kernel
theorem dL_law_215 : decode cL_law 215 = .ok (.aload_n 0, 1) := by decide +kernel
theorem dL_law_216 : decode cL_law 216 = .ok (.iload_n 3, 1) := by decide +kernel
theorem dL_law_217 : decode cL_law 217 = .ok (.iconst 4, 1) := by decide +kernel
theorem dL_law_218 : decode cL_law 218 = .ok (.iadd, 1) := by decide +kernel
theorem dL_law_219 : decode cL_law 219 = .ok (.iaload, 1) := by decide +kernel
theorem dL_law_220 : decode cL_law 220 = .ok (.ifCond .eq 7, 3) := by decide +kernel
theorem dL_law_223 : decode cL_law 223 = .ok (.iconst 1, 1) := by decide +kernel
theorem dL_law_224 : decode cL_law 224 = .ok (.goto 4, 3) := by decide +kernel
theorem dL_law_227 : decode cL_law 227 = .ok (.iconst 0, 1) := by decide +kernel
theorem dL_law_228 : decode cL_law 228 = .ok (.invokevirtual 18, 3) := by decide +kernel
theorem dL_law_231 : decode cL_law 231 = .ok (.aload_n 2, 1) := by decide +kernel
theorem dL_law_232 : decode cL_law 232 = .ok (.aload_n 0, 1) := by decide +kernel
theorem dL_law_233 : decode cL_law 233 = .ok (.iload_n 3, 1) := by decide +kernel
theorem dL_law_234 : decode cL_law 234 = .ok (.iconst 1, 1) := by decide +kernel
theorem dL_law_235 : decode cL_law 235 = .ok (.iadd, 1) := by decide +kernel
theorem dL_law_236 : decode cL_law 236 = .ok (.iaload, 1) := by decide +kernel
theorem dL_law_237 : decode cL_law 237 = .ok (.aload_n 0, 1) := by decide +kernel
theorem dL_law_238 : decode cL_law 238 = .ok (.iload_n 3, 1) := by decide +kernel
theorem dL_law_239 : decode cL_law 239 = .ok (.iconst 2, 1) := by decide +kernel
theorem dL_law_240 : decode cL_law 240 = .ok (.iadd, 1) := by decide +kernel
theorem dL_law_241 : decode cL_law 241 = .ok (.iaload, 1) := by decide +kernel
theorem dL_law_242 : decode cL_law 242 = .ok (.aload_n 0, 1) := by decide +kernel
theorem dL_law_243 : decode cL_law 243 = .ok (.iload_n 3, 1) := by decide +kernel
theorem dL_law_244 : decode cL_law 244 = .ok (.iconst 3, 1) := by decide +kernel
theorem dL_law_245 : decode cL_law 245 = .ok (.iadd, 1) := by decide +kernel
theorem dL_law_246 : decode cL_law 246 = .ok (.iaload, 1) := by decide +kernel
theorem dL_law_247 : decode cL_law 247 = .ok (.aload_n 0, 1) := by decide +kernel
theorem dL_law_248 : decode cL_law 248 = .ok (.iload_n 3, 1) := by decide +kernel
theorem dL_law_249 : decode cL_law 249 = .ok (.iconst 4, 1) := by decide +kernel
theorem dL_law_250 : decode cL_law 250 = .ok (.iadd, 1) := by decide +kernel
theorem dL_law_251 : decode cL_law 251 = .ok (.iaload, 1) := by decide +kernel
theorem dL_law_252 : decode cL_law 252 = .ok (.ifCond .eq 7, 3) := by decide +kernel
theorem dL_law_255 : decode cL_law 255 = .ok (.iconst 1, 1) := by decide +kernel
theorem dL_law_256 : decode cL_law 256 = .ok (.goto 4, 3) := by decide +kernel
theorem dL_law_259 : decode cL_law 259 = .ok (.iconst 0, 1) := by decide +kernel
theorem dL_law_260 : decode cL_law 260 = .ok (.invokevirtual 22, 3) := by decide +kernel
theorem dL_law_263 : decode cL_law 263 = .ok (.if_icmp .eq 927, 3) := by decide +kernel
theorem dL_law_266 : decode cL_law 266 = .ok (.iconst 0, 1) := by decide +kernel
theorem dL_law_267 : decode cL_law 267 = .ok (.ireturn, 1) := by decide +kernel
theorem dL_law_268 : decode cL_law 268 = .ok (.aload_n 1, 1) := by decide +kernel
theorem dL_law_269 : decode cL_law 269 = .ok (.invokevirtual 23, 3) := by decide +kernel
theorem dL_law_272 : decode cL_law 272 = .ok (.aload_n 2, 1) := by decide +kernel
theorem dL_law_273 : decode cL_law 273 = .ok (.invokevirtual 27, 3) := by decide +kernel
theorem dL_law_276 : decode cL_law 276 = .ok (.if_icmp .eq 914, 3) := by decide +kernel
theorem dL_law_279 : decode cL_law 279 = .ok (.iconst 0, 1) := by decide +kernel
theorem dL_law_280 : decode cL_law 280 = .ok (.ireturn, 1) := by decide +kernel
theorem dL_law_281 : decode cL_law 281 = .ok (.aload_n 1, 1) := by decide +kernel
theorem dL_law_282 : decode cL_law 282 = .ok (.aload_n 0, 1) := by decide +kernel
theorem dL_law_283 : decode cL_law 283 = .ok (.iload_n 3, 1) := by decide +kernel
theorem dL_law_284 : decode cL_law 284 = .ok (.iconst 1, 1) := by decide +kernel
theorem dL_law_285 : decode cL_law 285 = .ok (.iadd, 1) := by decide +kernel
theorem dL_law_286 : decode cL_law 286 = .ok (.iaload, 1) := by decide +kernel
theorem dL_law_287 : decode cL_law 287 = .ok (.aload_n 0, 1) := by decide +kernel
theorem dL_law_288 : decode cL_law 288 = .ok (.iload_n 3, 1) := by decide +kernel
theorem dL_law_289 : decode cL_law 289 = .ok (.iconst 2, 1) := by decide +kernel
theorem dL_law_290 : decode cL_law 290 = .ok (.iadd, 1) := by decide +kernel
theorem dL_law_291 : decode cL_law 291 = .ok (.iaload, 1) := by decide +kernel
theorem dL_law_292 : decode cL_law 292 = .ok (.invokevirtual 28, 3) := by decide +kernel
theorem dL_law_295 : decode cL_law 295 = .ok (.aload_n 2, 1) := by decide +kernel
theorem dL_law_296 : decode cL_law 296 = .ok (.aload_n 0, 1) := by decide +kernel
theorem dL_law_297 : decode cL_law 297 = .ok (.iload_n 3, 1) := by decide +kernel
theorem dL_law_298 : decode cL_law 298 = .ok (.iconst 1, 1) := by decide +kernel
theorem dL_law_299 : decode cL_law 299 = .ok (.iadd, 1) := by decide +kernel
theorem dL_law_300 : decode cL_law 300 = .ok (.iaload, 1) := by decide +kernel
theorem dL_law_301 : decode cL_law 301 = .ok (.aload_n 0, 1) := by decide +kernel
theorem dL_law_302 : decode cL_law 302 = .ok (.iload_n 3, 1) := by decide +kernel
theorem dL_law_303 : decode cL_law 303 = .ok (.iconst 2, 1) := by decide +kernel
theorem dL_law_304 : decode cL_law 304 = .ok (.iadd, 1) := by decide +kernel
theorem dL_law_305 : decode cL_law 305 = .ok (.iaload, 1) := by decide +kernel
theorem dL_law_306 : decode cL_law 306 = .ok (.invokevirtual 32, 3) := by decide +kernel
theorem dL_law_309 : decode cL_law 309 = .ok (.if_icmp .eq 881, 3) := by decide +kernel
theorem dL_law_312 : decode cL_law 312 = .ok (.iconst 0, 1) := by decide +kernel
theorem dL_law_313 : decode cL_law 313 = .ok (.ireturn, 1) := by decide +kernel
theorem dL_law_314 : decode cL_law 314 = .ok (.aload_n 1, 1) := by decide +kernel
theorem dL_law_315 : decode cL_law 315 = .ok (.aload_n 0, 1) := by decide +kernel
theorem dL_law_316 : decode cL_law 316 = .ok (.iload_n 3, 1) := by decide +kernel
theorem dL_law_317 : decode cL_law 317 = .ok (.iconst 1, 1) := by decide +kernel
theorem dL_law_318 : decode cL_law 318 = .ok (.iadd, 1) := by decide +kernel
theorem dL_law_319 : decode cL_law 319 = .ok (.iaload, 1) := by decide +kernel
theorem dL_law_320 : decode cL_law 320 = .ok (.aload_n 0, 1) := by decide +kernel
theorem dL_law_321 : decode cL_law 321 = .ok (.iload_n 3, 1) := by decide +kernel
theorem dL_law_322 : decode cL_law 322 = .ok (.iconst 2, 1) := by decide +kernel
theorem dL_law_323 : decode cL_law 323 = .ok (.iadd, 1) := by decide +kernel
theorem dL_law_324 : decode cL_law 324 = .ok (.iaload, 1) := by decide +kernel
theorem dL_law_325 : decode cL_law 325 = .ok (.aload_n 0, 1) := by decide +kernel
theorem dL_law_326 : decode cL_law 326 = .ok (.iload_n 3, 1) := by decide +kernel
theorem dL_law_327 : decode cL_law 327 = .ok (.iconst 3, 1) := by decide +kernel
theorem dL_law_328 : decode cL_law 328 = .ok (.iadd, 1) := by decide +kernel
theorem dL_law_329 : decode cL_law 329 = .ok (.iaload, 1) := by decide +kernel
theorem dL_law_330 : decode cL_law 330 = .ok (.aload_n 0, 1) := by decide +kernel
theorem dL_law_331 : decode cL_law 331 = .ok (.iload_n 3, 1) := by decide +kernel
theorem dL_law_332 : decode cL_law 332 = .ok (.iconst 4, 1) := by decide +kernel
theorem dL_law_333 : decode cL_law 333 = .ok (.iadd, 1) := by decide +kernel
theorem dL_law_334 : decode cL_law 334 = .ok (.iaload, 1) := by decide +kernel
theorem dL_law_335 : decode cL_law 335 = .ok (.invokevirtual 33, 3) := by decide +kernel
theorem dL_law_338 : decode cL_law 338 = .ok (.aload_n 2, 1) := by decide +kernel
theorem dL_law_339 : decode cL_law 339 = .ok (.aload_n 0, 1) := by decide +kernel
theorem dL_law_340 : decode cL_law 340 = .ok (.iload_n 3, 1) := by decide +kernel
theorem dL_law_341 : decode cL_law 341 = .ok (.iconst 1, 1) := by decide +kernel
theorem dL_law_342 : decode cL_law 342 = .ok (.iadd, 1) := by decide +kernel
theorem dL_law_343 : decode cL_law 343 = .ok (.iaload, 1) := by decide +kernel
theorem dL_law_344 : decode cL_law 344 = .ok (.aload_n 0, 1) := by decide +kernel
theorem dL_law_345 : decode cL_law 345 = .ok (.iload_n 3, 1) := by decide +kernel
theorem dL_law_346 : decode cL_law 346 = .ok (.iconst 2, 1) := by decide +kernel
theorem dL_law_347 : decode cL_law 347 = .ok (.iadd, 1) := by decide +kernel
theorem dL_law_348 : decode cL_law 348 = .ok (.iaload, 1) := by decide +kernel
theorem dL_law_349 : decode cL_law 349 = .ok (.aload_n 0, 1) := by decide +kernel
theorem dL_law_350 : decode cL_law 350 = .ok (.iload_n 3, 1) := by decide +kernel
theorem dL_law_351 : decode cL_law 351 = .ok (.iconst 3, 1) := by decide +kernel
theorem dL_law_352 : decode cL_law 352 = .ok (.iadd, 1) := by decide +kernel
theorem dL_law_353 : decode cL_law 353 = .ok (.iaload, 1) := by decide +kernel
theorem dL_law_354 : decode cL_law 354 = .ok (.aload_n 0, 1) := by decide +kernel
theorem dL_law_355 : decode cL_law 355 = .ok (.iload_n 3, 1) := by decide +kernel
theorem dL_law_356 : decode cL_law 356 = .ok (.iconst 4, 1) := by decide +kernel
theorem dL_law_357 : decode cL_law 357 = .ok (.iadd, 1) := by decide +kernel
theorem dL_law_358 : decode cL_law 358 = .ok (.iaload, 1) := by decide +kernel
theorem dL_law_359 : decode cL_law 359 = .ok (.invokevirtual 37, 3) := by decide +kernel
theorem dL_law_362 : decode cL_law 362 = .ok (.if_icmp .eq 828, 3) := by decide +kernel
theorem dL_law_365 : decode cL_law 365 = .ok (.iconst 0, 1) := by decide +kernel
theorem dL_law_366 : decode cL_law 366 = .ok (.ireturn, 1) := by decide +kernel
theorem dL_law_367 : decode cL_law 367 = .ok (.aload_n 1, 1) := by decide +kernel
theorem dL_law_368 : decode cL_law 368 = .ok (.invokevirtual 38, 3) := by decide +kernel
theorem dL_law_371 : decode cL_law 371 = .ok (.aload_n 2, 1) := by decide +kernel
theorem dL_law_372 : decode cL_law 372 = .ok (.invokevirtual 41, 3) := by decide +kernel
theorem dL_law_375 : decode cL_law 375 = .ok (.if_icmp .eq 815, 3) := by decide +kernel
theorem dL_law_378 : decode cL_law 378 = .ok (.iconst 0, 1) := by decide +kernel
theorem dL_law_379 : decode cL_law 379 = .ok (.ireturn, 1) := by decide +kernel
theorem dL_law_380 : decode cL_law 380 = .ok (.aload_n 1, 1) := by decide +kernel
theorem dL_law_381 : decode cL_law 381 = .ok (.invokevirtual 42, 3) := by decide +kernel
theorem dL_law_384 : decode cL_law 384 = .ok (.aload_n 2, 1) := by decide +kernel
theorem dL_law_385 : decode cL_law 385 = .ok (.invokevirtual 45, 3) := by decide +kernel
theorem dL_law_388 : decode cL_law 388 = .ok (.if_icmp .eq 802, 3) := by decide +kernel
theorem dL_law_391 : decode cL_law 391 = .ok (.iconst 0, 1) := by decide +kernel
theorem dL_law_392 : decode cL_law 392 = .ok (.ireturn, 1) := by decide +kernel
theorem dL_law_393 : decode cL_law 393 = .ok (.aload_n 1, 1) := by decide +kernel
theorem dL_law_394 : decode cL_law 394 = .ok (.aload_n 0, 1) := by decide +kernel
theorem dL_law_395 : decode cL_law 395 = .ok (.iload_n 3, 1) := by decide +kernel
theorem dL_law_396 : decode cL_law 396 = .ok (.iconst 1, 1) := by decide +kernel
theorem dL_law_397 : decode cL_law 397 = .ok (.iadd, 1) := by decide +kernel
theorem dL_law_398 : decode cL_law 398 = .ok (.iaload, 1) := by decide +kernel
theorem dL_law_399 : decode cL_law 399 = .ok (.invokevirtual 46, 3) := by decide +kernel
theorem dL_law_402 : decode cL_law 402 = .ok (.aload_n 2, 1) := by decide +kernel
theorem dL_law_403 : decode cL_law 403 = .ok (.aload_n 0, 1) := by decide +kernel
theorem dL_law_404 : decode cL_law 404 = .ok (.iload_n 3, 1) := by decide +kernel
theorem dL_law_405 : decode cL_law 405 = .ok (.iconst 1, 1) := by decide +kernel
theorem dL_law_406 : decode cL_law 406 = .ok (.iadd, 1) := by decide +kernel
theorem dL_law_407 : decode cL_law 407 = .ok (.iaload, 1) := by decide +kernel
theorem dL_law_408 : decode cL_law 408 = .ok (.invokevirtual 49, 3) := by decide +kernel
theorem dL_law_411 : decode cL_law 411 = .ok (.if_icmp .eq 779, 3) := by decide +kernel
theorem dL_law_414 : decode cL_law 414 = .ok (.iconst 0, 1) := by decide +kernel
theorem dL_law_415 : decode cL_law 415 = .ok (.ireturn, 1) := by decide +kernel
theorem dL_law_416 : decode cL_law 416 = .ok (.aload_n 1, 1) := by decide +kernel
theorem dL_law_417 : decode cL_law 417 = .ok (.invokevirtual 50, 3) := by decide +kernel
theorem dL_law_420 : decode cL_law 420 = .ok (.aload_n 2, 1) := by decide +kernel
theorem dL_law_421 : decode cL_law 421 = .ok (.invokevirtual 53, 3) := by decide +kernel
theorem dL_law_424 : decode cL_law 424 = .ok (.if_icmp .eq 766, 3) := by decide +kernel
theorem dL_law_427 : decode cL_law 427 = .ok (.iconst 0, 1) := by decide +kernel
theorem dL_law_428 : decode cL_law 428 = .ok (.ireturn, 1) := by decide +kernel
theorem dL_law_429 : decode cL_law 429 = .ok (.aload_n 1, 1) := by decide +kernel
theorem dL_law_430 : decode cL_law 430 = .ok (.aload_n 0, 1) := by decide +kernel
theorem dL_law_431 : decode cL_law 431 = .ok (.iload_n 3, 1) := by decide +kernel
theorem dL_law_432 : decode cL_law 432 = .ok (.iconst 1, 1) := by decide +kernel
theorem dL_law_433 : decode cL_law 433 = .ok (.iadd, 1) := by decide +kernel
theorem dL_law_434 : decode cL_law 434 = .ok (.iaload, 1) := by decide +kernel
theorem dL_law_435 : decode cL_law 435 = .ok (.aload_n 0, 1) := by decide +kernel
theorem dL_law_436 : decode cL_law 436 = .ok (.iload_n 3, 1) := by decide +kernel
theorem dL_law_437 : decode cL_law 437 = .ok (.iconst 2, 1) := by decide +kernel
theorem dL_law_438 : decode cL_law 438 = .ok (.iadd, 1) := by decide +kernel
theorem dL_law_439 : decode cL_law 439 = .ok (.iaload, 1) := by decide +kernel
theorem dL_law_440 : decode cL_law 440 = .ok (.invokevirtual 54, 3) := by decide +kernel
theorem dL_law_443 : decode cL_law 443 = .ok (.aload_n 2, 1) := by decide +kernel
theorem dL_law_444 : decode cL_law 444 = .ok (.aload_n 0, 1) := by decide +kernel
theorem dL_law_445 : decode cL_law 445 = .ok (.iload_n 3, 1) := by decide +kernel
theorem dL_law_446 : decode cL_law 446 = .ok (.iconst 1, 1) := by decide +kernel
theorem dL_law_447 : decode cL_law 447 = .ok (.iadd, 1) := by decide +kernel
theorem dL_law_448 : decode cL_law 448 = .ok (.iaload, 1) := by decide +kernel
theorem dL_law_449 : decode cL_law 449 = .ok (.aload_n 0, 1) := by decide +kernel
theorem dL_law_450 : decode cL_law 450 = .ok (.iload_n 3, 1) := by decide +kernel
theorem dL_law_451 : decode cL_law 451 = .ok (.iconst 2, 1) := by decide +kernel
theorem dL_law_452 : decode cL_law 452 = .ok (.iadd, 1) := by decide +kernel
theorem dL_law_453 : decode cL_law 453 = .ok (.iaload, 1) := by decide +kernel
theorem dL_law_454 : decode cL_law 454 = .ok (.invokevirtual 57, 3) := by decide +kernel
theorem dL_law_457 : decode cL_law 457 = .ok (.if_icmp .eq 733, 3) := by decide +kernel
theorem dL_law_460 : decode cL_law 460 = .ok (.iconst 0, 1) := by decide +kernel
theorem dL_law_461 : decode cL_law 461 = .ok (.ireturn, 1) := by decide +kernel
theorem dL_law_462 : decode cL_law 462 = .ok (.aload_n 1, 1) := by decide +kernel
theorem dL_law_463 : decode cL_law 463 = .ok (.aload_n 0, 1) := by decide +kernel
theorem dL_law_464 : decode cL_law 464 = .ok (.iload_n 3, 1) := by decide +kernel
theorem dL_law_465 : decode cL_law 465 = .ok (.iconst 1, 1) := by decide +kernel
theorem dL_law_466 : decode cL_law 466 = .ok (.iadd, 1) := by decide +kernel
theorem dL_law_467 : decode cL_law 467 = .ok (.iaload, 1) := by decide +kernel
theorem dL_law_468 : decode cL_law 468 = .ok (.aload_n 0, 1) := by decide +kernel
theorem dL_law_469 : decode cL_law 469 = .ok (.iload_n 3, 1) := by decide +kernel
theorem dL_law_470 : decode cL_law 470 = .ok (.iconst 2, 1) := by decide +kernel
theorem dL_law_471 : decode cL_law 471 = .ok (.iadd, 1) := by decide +kernel
theorem dL_law_472 : decode cL_law 472 = .ok (.iaload, 1) := by decide +kernel
theorem dL_law_473 : decode cL_law 473 = .ok (.invokevirtual 58, 3) := by decide +kernel
theorem dL_law_476 : decode cL_law 476 = .ok (.aload_n 2, 1) := by decide +kernel
theorem dL_law_477 : decode cL_law 477 = .ok (.aload_n 0, 1) := by decide +kernel
theorem dL_law_478 : decode cL_law 478 = .ok (.iload_n 3, 1) := by decide +kernel
theorem dL_law_479 : decode cL_law 479 = .ok (.iconst 1, 1) := by decide +kernel
theorem dL_law_480 : decode cL_law 480 = .ok (.iadd, 1) := by decide +kernel
theorem dL_law_481 : decode cL_law 481 = .ok (.iaload, 1) := by decide +kernel
theorem dL_law_482 : decode cL_law 482 = .ok (.aload_n 0, 1) := by decide +kernel
theorem dL_law_483 : decode cL_law 483 = .ok (.iload_n 3, 1) := by decide +kernel
theorem dL_law_484 : decode cL_law 484 = .ok (.iconst 2, 1) := by decide +kernel
theorem dL_law_485 : decode cL_law 485 = .ok (.iadd, 1) := by decide +kernel
theorem dL_law_486 : decode cL_law 486 = .ok (.iaload, 1) := by decide +kernel
theorem dL_law_487 : decode cL_law 487 = .ok (.invokevirtual 61, 3) := by decide +kernel
theorem dL_law_490 : decode cL_law 490 = .ok (.if_icmp .eq 700, 3) := by decide +kernel
theorem dL_law_493 : decode cL_law 493 = .ok (.iconst 0, 1) := by decide +kernel
theorem dL_law_494 : decode cL_law 494 = .ok (.ireturn, 1) := by decide +kernel
theorem dL_law_495 : decode cL_law 495 = .ok (.aload_n 1, 1) := by decide +kernel
theorem dL_law_496 : decode cL_law 496 = .ok (.aload_n 0, 1) := by decide +kernel
theorem dL_law_497 : decode cL_law 497 = .ok (.iload_n 3, 1) := by decide +kernel
theorem dL_law_498 : decode cL_law 498 = .ok (.iconst 1, 1) := by decide +kernel
theorem dL_law_499 : decode cL_law 499 = .ok (.iadd, 1) := by decide +kernel
theorem dL_law_500 : decode cL_law 500 = .ok (.iaload, 1) := by decide +kernel
theorem dL_law_501 : decode cL_law 501 = .ok (.ifCond .eq 7, 3) := by decide +kernel
theorem dL_law_504 : decode cL_law 504 = .ok (.iconst 1, 1) := by decide +kernel
theorem dL_law_505 : decode cL_law 505 = .ok (.goto 4, 3) := by decide +kernel
theorem dL_law_508 : decode cL_law 508 = .ok (.iconst 0, 1) := by decide +kernel
theorem dL_law_509 : decode cL_law 509 = .ok (.invokevirtual 62, 3) := by decide +kernel
theorem dL_law_512 : decode cL_law 512 = .ok (.aload_n 2, 1) := by decide +kernel
theorem dL_law_513 : decode cL_law 513 = .ok (.aload_n 0, 1) := by decide +kernel
theorem dL_law_514 : decode cL_law 514 = .ok (.iload_n 3, 1) := by decide +kernel
theorem dL_law_515 : decode cL_law 515 = .ok (.iconst 1, 1) := by decide +kernel
theorem dL_law_516 : decode cL_law 516 = .ok (.iadd, 1) := by decide +kernel
theorem dL_law_517 : decode cL_law 517 = .ok (.iaload, 1) := by decide +kernel
theorem dL_law_518 : decode cL_law 518 = .ok (.ifCond .eq 7, 3) := by decide +kernel
theorem dL_law_521 : decode cL_law 521 = .ok (.iconst 1, 1) := by decide +kernel
theorem dL_law_522 : decode cL_law 522 = .ok (.goto 4, 3) := by decide +kernel
theorem dL_law_525 : decode cL_law 525 = .ok (.iconst 0, 1) := by decide +kernel
theorem dL_law_526 : decode cL_law 526 = .ok (.invokevirtual 66, 3) := by decide +kernel
theorem dL_law_529 : decode cL_law 529 = .ok (.if_icmp .eq 661, 3) := by decide +kernel
theorem dL_law_532 : decode cL_law 532 = .ok (.iconst 0, 1) := by decide +kernel
theorem dL_law_533 : decode cL_law 533 = .ok (.ireturn, 1) := by decide +kernel
theorem dL_law_534 : decode cL_law 534 = .ok (.aload_n 1, 1) := by decide +kernel
theorem dL_law_535 : decode cL_law 535 = .ok (.aload_n 0, 1) := by decide +kernel
theorem dL_law_536 : decode cL_law 536 = .ok (.iload_n 3, 1) := by decide +kernel
theorem dL_law_537 : decode cL_law 537 = .ok (.iconst 1, 1) := by decide +kernel
theorem dL_law_538 : decode cL_law 538 = .ok (.iadd, 1) := by decide +kernel
theorem dL_law_539 : decode cL_law 539 = .ok (.iaload, 1) := by decide +kernel
theorem dL_law_540 : decode cL_law 540 = .ok (.aload_n 0, 1) := by decide +kernel
theorem dL_law_541 : decode cL_law 541 = .ok (.iload_n 3, 1) := by decide +kernel
theorem dL_law_542 : decode cL_law 542 = .ok (.iconst 2, 1) := by decide +kernel
theorem dL_law_543 : decode cL_law 543 = .ok (.iadd, 1) := by decide +kernel
theorem dL_law_544 : decode cL_law 544 = .ok (.iaload, 1) := by decide +kernel
theorem dL_law_545 : decode cL_law 545 = .ok (.aload_n 0, 1) := by decide +kernel
theorem dL_law_546 : decode cL_law 546 = .ok (.iload_n 3, 1) := by decide +kernel
theorem dL_law_547 : decode cL_law 547 = .ok (.iconst 3, 1) := by decide +kernel
theorem dL_law_548 : decode cL_law 548 = .ok (.iadd, 1) := by decide +kernel
theorem dL_law_549 : decode cL_law 549 = .ok (.iaload, 1) := by decide +kernel
theorem dL_law_550 : decode cL_law 550 = .ok (.ifCond .eq 7, 3) := by decide +kernel
theorem dL_law_553 : decode cL_law 553 = .ok (.iconst 1, 1) := by decide +kernel
theorem dL_law_554 : decode cL_law 554 = .ok (.goto 4, 3) := by decide +kernel
theorem dL_law_557 : decode cL_law 557 = .ok (.iconst 0, 1) := by decide +kernel
theorem dL_law_558 : decode cL_law 558 = .ok (.invokevirtual 67, 3) := by decide +kernel
theorem dL_law_561 : decode cL_law 561 = .ok (.aload_n 2, 1) := by decide +kernel
theorem dL_law_562 : decode cL_law 562 = .ok (.aload_n 0, 1) := by decide +kernel
theorem dL_law_563 : decode cL_law 563 = .ok (.iload_n 3, 1) := by decide +kernel
theorem dL_law_564 : decode cL_law 564 = .ok (.iconst 1, 1) := by decide +kernel
theorem dL_law_565 : decode cL_law 565 = .ok (.iadd, 1) := by decide +kernel
theorem dL_law_566 : decode cL_law 566 = .ok (.iaload, 1) := by decide +kernel
theorem dL_law_567 : decode cL_law 567 = .ok (.aload_n 0, 1) := by decide +kernel
theorem dL_law_568 : decode cL_law 568 = .ok (.iload_n 3, 1) := by decide +kernel
theorem dL_law_569 : decode cL_law 569 = .ok (.iconst 2, 1) := by decide +kernel
theorem dL_law_570 : decode cL_law 570 = .ok (.iadd, 1) := by decide +kernel
theorem dL_law_571 : decode cL_law 571 = .ok (.iaload, 1) := by decide +kernel
theorem dL_law_572 : decode cL_law 572 = .ok (.aload_n 0, 1) := by decide +kernel
theorem dL_law_573 : decode cL_law 573 = .ok (.iload_n 3, 1) := by decide +kernel
theorem dL_law_574 : decode cL_law 574 = .ok (.iconst 3, 1) := by decide +kernel
theorem dL_law_575 : decode cL_law 575 = .ok (.iadd, 1) := by decide +kernel
theorem dL_law_576 : decode cL_law 576 = .ok (.iaload, 1) := by decide +kernel
theorem dL_law_577 : decode cL_law 577 = .ok (.ifCond .eq 7, 3) := by decide +kernel
theorem dL_law_580 : decode cL_law 580 = .ok (.iconst 1, 1) := by decide +kernel
theorem dL_law_581 : decode cL_law 581 = .ok (.goto 4, 3) := by decide +kernel
theorem dL_law_584 : decode cL_law 584 = .ok (.iconst 0, 1) := by decide +kernel
theorem dL_law_585 : decode cL_law 585 = .ok (.invokevirtual 71, 3) := by decide +kernel
theorem dL_law_588 : decode cL_law 588 = .ok (.if_icmp .eq 602, 3) := by decide +kernel
theorem dL_law_591 : decode cL_law 591 = .ok (.iconst 0, 1) := by decide +kernel
theorem dL_law_592 : decode cL_law 592 = .ok (.ireturn, 1) := by decide +kernel
theorem dL_law_593 : decode cL_law 593 = .ok (.aload_n 1, 1) := by decide +kernel
theorem dL_law_594 : decode cL_law 594 = .ok (.aload_n 0, 1) := by decide +kernel
theorem dL_law_595 : decode cL_law 595 = .ok (.iload_n 3, 1) := by decide +kernel
theorem dL_law_596 : decode cL_law 596 = .ok (.iconst 1, 1) := by decide +kernel
theorem dL_law_597 : decode cL_law 597 = .ok (.iadd, 1) := by decide +kernel
theorem dL_law_598 : decode cL_law 598 = .ok (.iaload, 1) := by decide +kernel
theorem dL_law_599 : decode cL_law 599 = .ok (.aload_n 0, 1) := by decide +kernel
theorem dL_law_600 : decode cL_law 600 = .ok (.iload_n 3, 1) := by decide +kernel
theorem dL_law_601 : decode cL_law 601 = .ok (.iconst 2, 1) := by decide +kernel
theorem dL_law_602 : decode cL_law 602 = .ok (.iadd, 1) := by decide +kernel
theorem dL_law_603 : decode cL_law 603 = .ok (.iaload, 1) := by decide +kernel
theorem dL_law_604 : decode cL_law 604 = .ok (.aload_n 0, 1) := by decide +kernel
theorem dL_law_605 : decode cL_law 605 = .ok (.iload_n 3, 1) := by decide +kernel
theorem dL_law_606 : decode cL_law 606 = .ok (.iconst 3, 1) := by decide +kernel
theorem dL_law_607 : decode cL_law 607 = .ok (.iadd, 1) := by decide +kernel
theorem dL_law_608 : decode cL_law 608 = .ok (.iaload, 1) := by decide +kernel
theorem dL_law_609 : decode cL_law 609 = .ok (.ifCond .eq 7, 3) := by decide +kernel
theorem dL_law_612 : decode cL_law 612 = .ok (.iconst 1, 1) := by decide +kernel
theorem dL_law_613 : decode cL_law 613 = .ok (.goto 4, 3) := by decide +kernel
theorem dL_law_616 : decode cL_law 616 = .ok (.iconst 0, 1) := by decide +kernel
theorem dL_law_617 : decode cL_law 617 = .ok (.invokevirtual 72, 3) := by decide +kernel
theorem dL_law_620 : decode cL_law 620 = .ok (.aload_n 2, 1) := by decide +kernel
theorem dL_law_621 : decode cL_law 621 = .ok (.aload_n 0, 1) := by decide +kernel
theorem dL_law_622 : decode cL_law 622 = .ok (.iload_n 3, 1) := by decide +kernel
theorem dL_law_623 : decode cL_law 623 = .ok (.iconst 1, 1) := by decide +kernel
theorem dL_law_624 : decode cL_law 624 = .ok (.iadd, 1) := by decide +kernel
theorem dL_law_625 : decode cL_law 625 = .ok (.iaload, 1) := by decide +kernel
theorem dL_law_626 : decode cL_law 626 = .ok (.aload_n 0, 1) := by decide +kernel
theorem dL_law_627 : decode cL_law 627 = .ok (.iload_n 3, 1) := by decide +kernel
theorem dL_law_628 : decode cL_law 628 = .ok (.iconst 2, 1) := by decide +kernel
theorem dL_law_629 : decode cL_law 629 = .ok (.iadd, 1) := by decide +kernel
theorem dL_law_630 : decode cL_law 630 = .ok (.iaload, 1) := by decide +kernel
theorem dL_law_631 : decode cL_law 631 = .ok (.aload_n 0, 1) := by decide +kernel
theorem dL_law_632 : decode cL_law 632 = .ok (.iload_n 3, 1) := by decide +kernel
theorem dL_law_633 : decode cL_law 633 = .ok (.iconst 3, 1) := by decide +kernel
theorem dL_law_634 : decode cL_law 634 = .ok (.iadd, 1) := by decide +kernel
theorem dL_law_635 : decode cL_law 635 = .ok (.iaload, 1) := by decide +kernel
theorem dL_law_636 : decode cL_law 636 = .ok (.ifCond .eq 7, 3) := by decide +kernel
theorem dL_law_639 : decode cL_law 639 = .ok (.iconst 1, 1) := by decide +kernel
theorem dL_law_640 : decode cL_law 640 = .ok (.goto 4, 3) := by decide +kernel
theorem dL_law_643 : decode cL_law 643 = .ok (.iconst 0, 1) := by decide +kernel
theorem dL_law_644 : decode cL_law 644 = .ok (.invokevirtual 75, 3) := by decide +kernel
theorem dL_law_647 : decode cL_law 647 = .ok (.if_icmp .eq 543, 3) := by decide +kernel
theorem dL_law_650 : decode cL_law 650 = .ok (.iconst 0, 1) := by decide +kernel
theorem dL_law_651 : decode cL_law 651 = .ok (.ireturn, 1) := by decide +kernel
theorem dL_law_652 : decode cL_law 652 = .ok (.aload_n 1, 1) := by decide +kernel
theorem dL_law_653 : decode cL_law 653 = .ok (.aload_n 0, 1) := by decide +kernel
theorem dL_law_654 : decode cL_law 654 = .ok (.iload_n 3, 1) := by decide +kernel
theorem dL_law_655 : decode cL_law 655 = .ok (.iconst 1, 1) := by decide +kernel
theorem dL_law_656 : decode cL_law 656 = .ok (.iadd, 1) := by decide +kernel
theorem dL_law_657 : decode cL_law 657 = .ok (.iaload, 1) := by decide +kernel
theorem dL_law_658 : decode cL_law 658 = .ok (.invokevirtual 76, 3) := by decide +kernel
theorem dL_law_661 : decode cL_law 661 = .ok (.aload_n 2, 1) := by decide +kernel
theorem dL_law_662 : decode cL_law 662 = .ok (.aload_n 0, 1) := by decide +kernel
theorem dL_law_663 : decode cL_law 663 = .ok (.iload_n 3, 1) := by decide +kernel
theorem dL_law_664 : decode cL_law 664 = .ok (.iconst 1, 1) := by decide +kernel
theorem dL_law_665 : decode cL_law 665 = .ok (.iadd, 1) := by decide +kernel
theorem dL_law_666 : decode cL_law 666 = .ok (.iaload, 1) := by decide +kernel
theorem dL_law_667 : decode cL_law 667 = .ok (.invokevirtual 79, 3) := by decide +kernel
theorem dL_law_670 : decode cL_law 670 = .ok (.if_icmp .eq 520, 3) := by decide +kernel
theorem dL_law_673 : decode cL_law 673 = .ok (.iconst 0, 1) := by decide +kernel
theorem dL_law_674 : decode cL_law 674 = .ok (.ireturn, 1) := by decide +kernel
theorem dL_law_675 : decode cL_law 675 = .ok (.aload_n 1, 1) := by decide +kernel
theorem dL_law_676 : decode cL_law 676 = .ok (.aload_n 0, 1) := by decide +kernel
theorem dL_law_677 : decode cL_law 677 = .ok (.iload_n 3, 1) := by decide +kernel
theorem dL_law_678 : decode cL_law 678 = .ok (.iconst 1, 1) := by decide +kernel
theorem dL_law_679 : decode cL_law 679 = .ok (.iadd, 1) := by decide +kernel
theorem dL_law_680 : decode cL_law 680 = .ok (.iaload, 1) := by decide +kernel
theorem dL_law_681 : decode cL_law 681 = .ok (.aload_n 0, 1) := by decide +kernel
theorem dL_law_682 : decode cL_law 682 = .ok (.iload_n 3, 1) := by decide +kernel
theorem dL_law_683 : decode cL_law 683 = .ok (.iconst 2, 1) := by decide +kernel
theorem dL_law_684 : decode cL_law 684 = .ok (.iadd, 1) := by decide +kernel
theorem dL_law_685 : decode cL_law 685 = .ok (.iaload, 1) := by decide +kernel
theorem dL_law_686 : decode cL_law 686 = .ok (.invokevirtual 80, 3) := by decide +kernel
theorem dL_law_689 : decode cL_law 689 = .ok (.aload_n 2, 1) := by decide +kernel
theorem dL_law_690 : decode cL_law 690 = .ok (.aload_n 0, 1) := by decide +kernel
theorem dL_law_691 : decode cL_law 691 = .ok (.iload_n 3, 1) := by decide +kernel
theorem dL_law_692 : decode cL_law 692 = .ok (.iconst 1, 1) := by decide +kernel
theorem dL_law_693 : decode cL_law 693 = .ok (.iadd, 1) := by decide +kernel
theorem dL_law_694 : decode cL_law 694 = .ok (.iaload, 1) := by decide +kernel
theorem dL_law_695 : decode cL_law 695 = .ok (.aload_n 0, 1) := by decide +kernel
theorem dL_law_696 : decode cL_law 696 = .ok (.iload_n 3, 1) := by decide +kernel
theorem dL_law_697 : decode cL_law 697 = .ok (.iconst 2, 1) := by decide +kernel
theorem dL_law_698 : decode cL_law 698 = .ok (.iadd, 1) := by decide +kernel
theorem dL_law_699 : decode cL_law 699 = .ok (.iaload, 1) := by decide +kernel
theorem dL_law_700 : decode cL_law 700 = .ok (.invokevirtual 83, 3) := by decide +kernel
theorem dL_law_703 : decode cL_law 703 = .ok (.if_icmp .eq 487, 3) := by decide +kernel
theorem dL_law_706 : decode cL_law 706 = .ok (.iconst 0, 1) := by decide +kernel
theorem dL_law_707 : decode cL_law 707 = .ok (.ireturn, 1) := by decide +kernel
theorem dL_law_708 : decode cL_law 708 = .ok (.aload_n 1, 1) := by decide +kernel
theorem dL_law_709 : decode cL_law 709 = .ok (.aload_n 0, 1) := by decide +kernel
theorem dL_law_710 : decode cL_law 710 = .ok (.iload_n 3, 1) := by decide +kernel
theorem dL_law_711 : decode cL_law 711 = .ok (.iconst 1, 1) := by decide +kernel
theorem dL_law_712 : decode cL_law 712 = .ok (.iadd, 1) := by decide +kernel
theorem dL_law_713 : decode cL_law 713 = .ok (.iaload, 1) := by decide +kernel
theorem dL_law_714 : decode cL_law 714 = .ok (.aload_n 0, 1) := by decide +kernel
theorem dL_law_715 : decode cL_law 715 = .ok (.iload_n 3, 1) := by decide +kernel
theorem dL_law_716 : decode cL_law 716 = .ok (.iconst 2, 1) := by decide +kernel
theorem dL_law_717 : decode cL_law 717 = .ok (.iadd, 1) := by decide +kernel
theorem dL_law_718 : decode cL_law 718 = .ok (.iaload, 1) := by decide +kernel
theorem dL_law_719 : decode cL_law 719 = .ok (.aload_n 0, 1) := by decide +kernel
theorem dL_law_720 : decode cL_law 720 = .ok (.iload_n 3, 1) := by decide +kernel
theorem dL_law_721 : decode cL_law 721 = .ok (.iconst 3, 1) := by decide +kernel
theorem dL_law_722 : decode cL_law 722 = .ok (.iadd, 1) := by decide +kernel
theorem dL_law_723 : decode cL_law 723 = .ok (.iaload, 1) := by decide +kernel
theorem dL_law_724 : decode cL_law 724 = .ok (.invokevirtual 84, 3) := by decide +kernel
theorem dL_law_727 : decode cL_law 727 = .ok (.aload_n 2, 1) := by decide +kernel
theorem dL_law_728 : decode cL_law 728 = .ok (.aload_n 0, 1) := by decide +kernel
theorem dL_law_729 : decode cL_law 729 = .ok (.iload_n 3, 1) := by decide +kernel
theorem dL_law_730 : decode cL_law 730 = .ok (.iconst 1, 1) := by decide +kernel
theorem dL_law_731 : decode cL_law 731 = .ok (.iadd, 1) := by decide +kernel
theorem dL_law_732 : decode cL_law 732 = .ok (.iaload, 1) := by decide +kernel
theorem dL_law_733 : decode cL_law 733 = .ok (.aload_n 0, 1) := by decide +kernel
theorem dL_law_734 : decode cL_law 734 = .ok (.iload_n 3, 1) := by decide +kernel
theorem dL_law_735 : decode cL_law 735 = .ok (.iconst 2, 1) := by decide +kernel
theorem dL_law_736 : decode cL_law 736 = .ok (.iadd, 1) := by decide +kernel
theorem dL_law_737 : decode cL_law 737 = .ok (.iaload, 1) := by decide +kernel
theorem dL_law_738 : decode cL_law 738 = .ok (.aload_n 0, 1) := by decide +kernel
theorem dL_law_739 : decode cL_law 739 = .ok (.iload_n 3, 1) := by decide +kernel
theorem dL_law_740 : decode cL_law 740 = .ok (.iconst 3, 1) := by decide +kernel
theorem dL_law_741 : decode cL_law 741 = .ok (.iadd, 1) := by decide +kernel
theorem dL_law_742 : decode cL_law 742 = .ok (.iaload, 1) := by decide +kernel
theorem dL_law_743 : decode cL_law 743 = .ok (.invokevirtual 88, 3) := by decide +kernel
theorem dL_law_746 : decode cL_law 746 = .ok (.if_icmp .eq 444, 3) := by decide +kernel
theorem dL_law_749 : decode cL_law 749 = .ok (.iconst 0, 1) := by decide +kernel
theorem dL_law_750 : decode cL_law 750 = .ok (.ireturn, 1) := by decide +kernel
theorem dL_law_751 : decode cL_law 751 = .ok (.aload_n 1, 1) := by decide +kernel
theorem dL_law_752 : decode cL_law 752 = .ok (.aload_n 0, 1) := by decide +kernel
theorem dL_law_753 : decode cL_law 753 = .ok (.iload_n 3, 1) := by decide +kernel
theorem dL_law_754 : decode cL_law 754 = .ok (.iconst 1, 1) := by decide +kernel
theorem dL_law_755 : decode cL_law 755 = .ok (.iadd, 1) := by decide +kernel
theorem dL_law_756 : decode cL_law 756 = .ok (.iaload, 1) := by decide +kernel
theorem dL_law_757 : decode cL_law 757 = .ok (.aload_n 0, 1) := by decide +kernel
theorem dL_law_758 : decode cL_law 758 = .ok (.iload_n 3, 1) := by decide +kernel
theorem dL_law_759 : decode cL_law 759 = .ok (.iconst 2, 1) := by decide +kernel
theorem dL_law_760 : decode cL_law 760 = .ok (.iadd, 1) := by decide +kernel
theorem dL_law_761 : decode cL_law 761 = .ok (.iaload, 1) := by decide +kernel
theorem dL_law_762 : decode cL_law 762 = .ok (.aload_n 0, 1) := by decide +kernel
theorem dL_law_763 : decode cL_law 763 = .ok (.iload_n 3, 1) := by decide +kernel
theorem dL_law_764 : decode cL_law 764 = .ok (.iconst 3, 1) := by decide +kernel
theorem dL_law_765 : decode cL_law 765 = .ok (.iadd, 1) := by decide +kernel
theorem dL_law_766 : decode cL_law 766 = .ok (.iaload, 1) := by decide +kernel
theorem dL_law_767 : decode cL_law 767 = .ok (.invokevirtual 89, 3) := by decide +kernel
theorem dL_law_770 : decode cL_law 770 = .ok (.aload_n 2, 1) := by decide +kernel
theorem dL_law_771 : decode cL_law 771 = .ok (.aload_n 0, 1) := by decide +kernel
theorem dL_law_772 : decode cL_law 772 = .ok (.iload_n 3, 1) := by decide +kernel
theorem dL_law_773 : decode cL_law 773 = .ok (.iconst 1, 1) := by decide +kernel
theorem dL_law_774 : decode cL_law 774 = .ok (.iadd, 1) := by decide +kernel
theorem dL_law_775 : decode cL_law 775 = .ok (.iaload, 1) := by decide +kernel
theorem dL_law_776 : decode cL_law 776 = .ok (.aload_n 0, 1) := by decide +kernel
theorem dL_law_777 : decode cL_law 777 = .ok (.iload_n 3, 1) := by decide +kernel
theorem dL_law_778 : decode cL_law 778 = .ok (.iconst 2, 1) := by decide +kernel
theorem dL_law_779 : decode cL_law 779 = .ok (.iadd, 1) := by decide +kernel
theorem dL_law_780 : decode cL_law 780 = .ok (.iaload, 1) := by decide +kernel
theorem dL_law_781 : decode cL_law 781 = .ok (.aload_n 0, 1) := by decide +kernel
theorem dL_law_782 : decode cL_law 782 = .ok (.iload_n 3, 1) := by decide +kernel
theorem dL_law_783 : decode cL_law 783 = .ok (.iconst 3, 1) := by decide +kernel
theorem dL_law_784 : decode cL_law 784 = .ok (.iadd, 1) := by decide +kernel
theorem dL_law_785 : decode cL_law 785 = .ok (.iaload, 1) := by decide +kernel
theorem dL_law_786 : decode cL_law 786 = .ok (.invokevirtual 92, 3) := by decide +kernel
theorem dL_law_789 : decode cL_law 789 = .ok (.if_icmp .eq 401, 3) := by decide +kernel
theorem dL_law_792 : decode cL_law 792 = .ok (.iconst 0, 1) := by decide +kernel
theorem dL_law_793 : decode cL_law 793 = .ok (.ireturn, 1) := by decide +kernel
theorem dL_law_794 : decode cL_law 794 = .ok (.aload_n 1, 1) := by decide +kernel
theorem dL_law_795 : decode cL_law 795 = .ok (.aload_n 0, 1) := by decide +kernel
theorem dL_law_796 : decode cL_law 796 = .ok (.iload_n 3, 1) := by decide +kernel
theorem dL_law_797 : decode cL_law 797 = .ok (.iconst 1, 1) := by decide +kernel
theorem dL_law_798 : decode cL_law 798 = .ok (.iadd, 1) := by decide +kernel
theorem dL_law_799 : decode cL_law 799 = .ok (.iaload, 1) := by decide +kernel
theorem dL_law_800 : decode cL_law 800 = .ok (.ifCond .eq 7, 3) := by decide +kernel
theorem dL_law_803 : decode cL_law 803 = .ok (.iconst 1, 1) := by decide +kernel
theorem dL_law_804 : decode cL_law 804 = .ok (.goto 4, 3) := by decide +kernel
theorem dL_law_807 : decode cL_law 807 = .ok (.iconst 0, 1) := by decide +kernel
theorem dL_law_808 : decode cL_law 808 = .ok (.invokevirtual 93, 3) := by decide +kernel
theorem dL_law_811 : decode cL_law 811 = .ok (.aload_n 2, 1) := by decide +kernel
theorem dL_law_812 : decode cL_law 812 = .ok (.aload_n 0, 1) := by decide +kernel
theorem dL_law_813 : decode cL_law 813 = .ok (.iload_n 3, 1) := by decide +kernel
theorem dL_law_814 : decode cL_law 814 = .ok (.iconst 1, 1) := by decide +kernel
theorem dL_law_815 : decode cL_law 815 = .ok (.iadd, 1) := by decide +kernel
theorem dL_law_816 : decode cL_law 816 = .ok (.iaload, 1) := by decide +kernel
theorem dL_law_817 : decode cL_law 817 = .ok (.ifCond .eq 7, 3) := by decide +kernel
theorem dL_law_820 : decode cL_law 820 = .ok (.iconst 1, 1) := by decide +kernel
theorem dL_law_821 : decode cL_law 821 = .ok (.goto 4, 3) := by decide +kernel
theorem dL_law_824 : decode cL_law 824 = .ok (.iconst 0, 1) := by decide +kernel
theorem dL_law_825 : decode cL_law 825 = .ok (.invokevirtual 96, 3) := by decide +kernel
theorem dL_law_828 : decode cL_law 828 = .ok (.if_icmp .eq 362, 3) := by decide +kernel
theorem dL_law_831 : decode cL_law 831 = .ok (.iconst 0, 1) := by decide +kernel
theorem dL_law_832 : decode cL_law 832 = .ok (.ireturn, 1) := by decide +kernel
theorem dL_law_833 : decode cL_law 833 = .ok (.aload_n 1, 1) := by decide +kernel
theorem dL_law_834 : decode cL_law 834 = .ok (.invokevirtual 97, 3) := by decide +kernel
theorem dL_law_837 : decode cL_law 837 = .ok (.aload_n 2, 1) := by decide +kernel
theorem dL_law_838 : decode cL_law 838 = .ok (.invokevirtual 100, 3) := by decide +kernel
theorem dL_law_841 : decode cL_law 841 = .ok (.if_icmp .eq 349, 3) := by decide +kernel
theorem dL_law_844 : decode cL_law 844 = .ok (.iconst 0, 1) := by decide +kernel
theorem dL_law_845 : decode cL_law 845 = .ok (.ireturn, 1) := by decide +kernel
theorem dL_law_846 : decode cL_law 846 = .ok (.aload_n 1, 1) := by decide +kernel
theorem dL_law_847 : decode cL_law 847 = .ok (.aload_n 0, 1) := by decide +kernel
theorem dL_law_848 : decode cL_law 848 = .ok (.iload_n 3, 1) := by decide +kernel
theorem dL_law_849 : decode cL_law 849 = .ok (.iconst 1, 1) := by decide +kernel
theorem dL_law_850 : decode cL_law 850 = .ok (.iadd, 1) := by decide +kernel
theorem dL_law_851 : decode cL_law 851 = .ok (.iaload, 1) := by decide +kernel
theorem dL_law_852 : decode cL_law 852 = .ok (.ifCond .eq 7, 3) := by decide +kernel
theorem dL_law_855 : decode cL_law 855 = .ok (.iconst 1, 1) := by decide +kernel
theorem dL_law_856 : decode cL_law 856 = .ok (.goto 4, 3) := by decide +kernel
theorem dL_law_859 : decode cL_law 859 = .ok (.iconst 0, 1) := by decide +kernel
theorem dL_law_860 : decode cL_law 860 = .ok (.invokevirtual 101, 3) := by decide +kernel
theorem dL_law_863 : decode cL_law 863 = .ok (.aload_n 2, 1) := by decide +kernel
theorem dL_law_864 : decode cL_law 864 = .ok (.aload_n 0, 1) := by decide +kernel
theorem dL_law_865 : decode cL_law 865 = .ok (.iload_n 3, 1) := by decide +kernel
theorem dL_law_866 : decode cL_law 866 = .ok (.iconst 1, 1) := by decide +kernel
theorem dL_law_867 : decode cL_law 867 = .ok (.iadd, 1) := by decide +kernel
theorem dL_law_868 : decode cL_law 868 = .ok (.iaload, 1) := by decide +kernel
theorem dL_law_869 : decode cL_law 869 = .ok (.ifCond .eq 7, 3) := by decide +kernel
theorem dL_law_872 : decode cL_law 872 = .ok (.iconst 1, 1) := by decide +kernel
theorem dL_law_873 : decode cL_law 873 = .ok (.goto 4, 3) := by decide +kernel
theorem dL_law_876 : decode cL_law 876 = .ok (.iconst 0, 1) := by decide +kernel
theorem dL_law_877 : decode cL_law 877 = .ok (.invokevirtual 104, 3) := by decide +kernel
theorem dL_law_880 : decode cL_law 880 = .ok (.if_icmp .eq 310, 3) := by decide +kernel
theorem dL_law_883 : decode cL_law 883 = .ok (.iconst 0, 1) := by decide +kernel
theorem dL_law_884 : decode cL_law 884 = .ok (.ireturn, 1) := by decide +kernel
theorem dL_law_885 : decode cL_law 885 = .ok (.aload_n 1, 1) := by decide +kernel
theorem dL_law_886 : decode cL_law 886 = .ok (.aload_n 0, 1) := by decide +kernel
theorem dL_law_887 : decode cL_law 887 = .ok (.iload_n 3, 1) := by decide +kernel
theorem dL_law_888 : decode cL_law 888 = .ok (.iconst 1, 1) := by decide +kernel
theorem dL_law_889 : decode cL_law 889 = .ok (.iadd, 1) := by decide +kernel
theorem dL_law_890 : decode cL_law 890 = .ok (.iaload, 1) := by decide +kernel
theorem dL_law_891 : decode cL_law 891 = .ok (.invokevirtual 105, 3) := by decide +kernel
theorem dL_law_894 : decode cL_law 894 = .ok (.aload_n 2, 1) := by decide +kernel
theorem dL_law_895 : decode cL_law 895 = .ok (.aload_n 0, 1) := by decide +kernel
theorem dL_law_896 : decode cL_law 896 = .ok (.iload_n 3, 1) := by decide +kernel
theorem dL_law_897 : decode cL_law 897 = .ok (.iconst 1, 1) := by decide +kernel
theorem dL_law_898 : decode cL_law 898 = .ok (.iadd, 1) := by decide +kernel
theorem dL_law_899 : decode cL_law 899 = .ok (.iaload, 1) := by decide +kernel
theorem dL_law_900 : decode cL_law 900 = .ok (.invokevirtual 108, 3) := by decide +kernel
theorem dL_law_903 : decode cL_law 903 = .ok (.if_icmp .eq 287, 3) := by decide +kernel
theorem dL_law_906 : decode cL_law 906 = .ok (.iconst 0, 1) := by decide +kernel
theorem dL_law_907 : decode cL_law 907 = .ok (.ireturn, 1) := by decide +kernel
theorem dL_law_908 : decode cL_law 908 = .ok (.aload_n 1, 1) := by decide +kernel
theorem dL_law_909 : decode cL_law 909 = .ok (.aload_n 0, 1) := by decide +kernel
theorem dL_law_910 : decode cL_law 910 = .ok (.iload_n 3, 1) := by decide +kernel
theorem dL_law_911 : decode cL_law 911 = .ok (.iconst 1, 1) := by decide +kernel
theorem dL_law_912 : decode cL_law 912 = .ok (.iadd, 1) := by decide +kernel
theorem dL_law_913 : decode cL_law 913 = .ok (.iaload, 1) := by decide +kernel
theorem dL_law_914 : decode cL_law 914 = .ok (.aload_n 0, 1) := by decide +kernel
theorem dL_law_915 : decode cL_law 915 = .ok (.iload_n 3, 1) := by decide +kernel
theorem dL_law_916 : decode cL_law 916 = .ok (.iconst 2, 1) := by decide +kernel
theorem dL_law_917 : decode cL_law 917 = .ok (.iadd, 1) := by decide +kernel
theorem dL_law_918 : decode cL_law 918 = .ok (.iaload, 1) := by decide +kernel
theorem dL_law_919 : decode cL_law 919 = .ok (.ifCond .eq 7, 3) := by decide +kernel
theorem dL_law_922 : decode cL_law 922 = .ok (.iconst 1, 1) := by decide +kernel
theorem dL_law_923 : decode cL_law 923 = .ok (.goto 4, 3) := by decide +kernel
theorem dL_law_926 : decode cL_law 926 = .ok (.iconst 0, 1) := by decide +kernel
theorem dL_law_927 : decode cL_law 927 = .ok (.invokevirtual 109, 3) := by decide +kernel
theorem dL_law_930 : decode cL_law 930 = .ok (.aload_n 2, 1) := by decide +kernel
theorem dL_law_931 : decode cL_law 931 = .ok (.aload_n 0, 1) := by decide +kernel
theorem dL_law_932 : decode cL_law 932 = .ok (.iload_n 3, 1) := by decide +kernel
theorem dL_law_933 : decode cL_law 933 = .ok (.iconst 1, 1) := by decide +kernel
theorem dL_law_934 : decode cL_law 934 = .ok (.iadd, 1) := by decide +kernel
theorem dL_law_935 : decode cL_law 935 = .ok (.iaload, 1) := by decide +kernel
theorem dL_law_936 : decode cL_law 936 = .ok (.aload_n 0, 1) := by decide +kernel
theorem dL_law_937 : decode cL_law 937 = .ok (.iload_n 3, 1) := by decide +kernel
theorem dL_law_938 : decode cL_law 938 = .ok (.iconst 2, 1) := by decide +kernel
theorem dL_law_939 : decode cL_law 939 = .ok (.iadd, 1) := by decide +kernel
theorem dL_law_940 : decode cL_law 940 = .ok (.iaload, 1) := by decide +kernel
theorem dL_law_941 : decode cL_law 941 = .ok (.ifCond .eq 7, 3) := by decide +kernel
theorem dL_law_944 : decode cL_law 944 = .ok (.iconst 1, 1) := by decide +kernel
theorem dL_law_945 : decode cL_law 945 = .ok (.goto 4, 3) := by decide +kernel
theorem dL_law_948 : decode cL_law 948 = .ok (.iconst 0, 1) := by decide +kernel
theorem dL_law_949 : decode cL_law 949 = .ok (.invokevirtual 113, 3) := by decide +kernel
theorem dL_law_952 : decode cL_law 952 = .ok (.if_icmp .eq 238, 3) := by decide +kernel
theorem dL_law_955 : decode cL_law 955 = .ok (.iconst 0, 1) := by decide +kernel
theorem dL_law_956 : decode cL_law 956 = .ok (.ireturn, 1) := by decide +kernel
theorem dL_law_957 : decode cL_law 957 = .ok (.aload_n 1, 1) := by decide +kernel
theorem dL_law_958 : decode cL_law 958 = .ok (.aload_n 0, 1) := by decide +kernel
theorem dL_law_959 : decode cL_law 959 = .ok (.iload_n 3, 1) := by decide +kernel
theorem dL_law_960 : decode cL_law 960 = .ok (.iconst 1, 1) := by decide +kernel
theorem dL_law_961 : decode cL_law 961 = .ok (.iadd, 1) := by decide +kernel
theorem dL_law_962 : decode cL_law 962 = .ok (.iaload, 1) := by decide +kernel
theorem dL_law_963 : decode cL_law 963 = .ok (.aload_n 0, 1) := by decide +kernel
theorem dL_law_964 : decode cL_law 964 = .ok (.iload_n 3, 1) := by decide +kernel
theorem dL_law_965 : decode cL_law 965 = .ok (.iconst 2, 1) := by decide +kernel
theorem dL_law_966 : decode cL_law 966 = .ok (.iadd, 1) := by decide +kernel
theorem dL_law_967 : decode cL_law 967 = .ok (.iaload, 1) := by decide +kernel
theorem dL_law_968 : decode cL_law 968 = .ok (.aload_n 0, 1) := by decide +kernel
theorem dL_law_969 : decode cL_law 969 = .ok (.iload_n 3, 1) := by decide +kernel
theorem dL_law_970 : decode cL_law 970 = .ok (.iconst 3, 1) := by decide +kernel
theorem dL_law_971 : decode cL_law 971 = .ok (.iadd, 1) := by decide +kernel
theorem dL_law_972 : decode cL_law 972 = .ok (.iaload, 1) := by decide +kernel
theorem dL_law_973 : decode cL_law 973 = .ok (.ifCond .eq 7, 3) := by decide +kernel
theorem dL_law_976 : decode cL_law 976 = .ok (.iconst 1, 1) := by decide +kernel
theorem dL_law_977 : decode cL_law 977 = .ok (.goto 4, 3) := by decide +kernel
theorem dL_law_980 : decode cL_law 980 = .ok (.iconst 0, 1) := by decide +kernel
theorem dL_law_981 : decode cL_law 981 = .ok (.invokevirtual 114, 3) := by decide +kernel
theorem dL_law_984 : decode cL_law 984 = .ok (.aload_n 2, 1) := by decide +kernel
theorem dL_law_985 : decode cL_law 985 = .ok (.aload_n 0, 1) := by decide +kernel
theorem dL_law_986 : decode cL_law 986 = .ok (.iload_n 3, 1) := by decide +kernel
theorem dL_law_987 : decode cL_law 987 = .ok (.iconst 1, 1) := by decide +kernel
theorem dL_law_988 : decode cL_law 988 = .ok (.iadd, 1) := by decide +kernel
theorem dL_law_989 : decode cL_law 989 = .ok (.iaload, 1) := by decide +kernel
theorem dL_law_990 : decode cL_law 990 = .ok (.aload_n 0, 1) := by decide +kernel
theorem dL_law_991 : decode cL_law 991 = .ok (.iload_n 3, 1) := by decide +kernel
theorem dL_law_992 : decode cL_law 992 = .ok (.iconst 2, 1) := by decide +kernel
theorem dL_law_993 : decode cL_law 993 = .ok (.iadd, 1) := by decide +kernel
theorem dL_law_994 : decode cL_law 994 = .ok (.iaload, 1) := by decide +kernel
theorem dL_law_995 : decode cL_law 995 = .ok (.aload_n 0, 1) := by decide +kernel
theorem dL_law_996 : decode cL_law 996 = .ok (.iload_n 3, 1) := by decide +kernel
theorem dL_law_997 : decode cL_law 997 = .ok (.iconst 3, 1) := by decide +kernel
theorem dL_law_998 : decode cL_law 998 = .ok (.iadd, 1) := by decide +kernel
theorem dL_law_999 : decode cL_law 999 = .ok (.iaload, 1) := by decide +kernel
theorem dL_law_1000 : decode cL_law 1000 = .ok (.ifCond .eq 7, 3) := by decide +kernel
theorem dL_law_1003 : decode cL_law 1003 = .ok (.iconst 1, 1) := by decide +kernel
theorem dL_law_1004 : decode cL_law 1004 = .ok (.goto 4, 3) := by decide +kernel
theorem dL_law_1007 : decode cL_law 1007 = .ok (.iconst 0, 1) := by decide +kernel
theorem dL_law_1008 : decode cL_law 1008 = .ok (.invokevirtual 117, 3) := by decide +kernel
theorem dL_law_1011 : decode cL_law 1011 = .ok (.if_icmp .eq 179, 3) := by decide +kernel
theorem dL_law_1014 : decode cL_law 1014 = .ok (.iconst 0, 1) := by decide +kernel
theorem dL_law_1015 : decode cL_law 1015 = .ok (.ireturn, 1) := by decide +kernel
theorem dL_law_1016 : decode cL_law 1016 = .ok (.aload_n 1, 1) := by decide +kernel
theorem dL_law_1017 : decode cL_law 1017 = .ok (.invokevirtual 118, 3) := by decide +kernel
theorem dL_law_1020 : decode cL_law 1020 = .ok (.aload_n 2, 1) := by decide +kernel
theorem dL_law_1021 : decode cL_law 1021 = .ok (.invokevirtual 121, 3) := by decide +kernel
theorem dL_law_1024 : decode cL_law 1024 = .ok (.if_icmp .eq 166, 3) := by decide +kernel
theorem dL_law_1027 : decode cL_law 1027 = .ok (.iconst 0, 1) := by decide +kernel
theorem dL_law_1028 : decode cL_law 1028 = .ok (.ireturn, 1) := by decide +kernel
theorem dL_law_1029 : decode cL_law 1029 = .ok (.aload_n 1, 1) := by decide +kernel
theorem dL_law_1030 : decode cL_law 1030 = .ok (.invokevirtual 122, 3) := by decide +kernel
theorem dL_law_1033 : decode cL_law 1033 = .ok (.aload_n 2, 1) := by decide +kernel
theorem dL_law_1034 : decode cL_law 1034 = .ok (.invokevirtual 125, 3) := by decide +kernel
theorem dL_law_1037 : decode cL_law 1037 = .ok (.if_icmp .eq 153, 3) := by decide +kernel
theorem dL_law_1040 : decode cL_law 1040 = .ok (.iconst 0, 1) := by decide +kernel
theorem dL_law_1041 : decode cL_law 1041 = .ok (.ireturn, 1) := by decide +kernel
theorem dL_law_1042 : decode cL_law 1042 = .ok (.aload_n 1, 1) := by decide +kernel
theorem dL_law_1043 : decode cL_law 1043 = .ok (.aload_n 0, 1) := by decide +kernel
theorem dL_law_1044 : decode cL_law 1044 = .ok (.iload_n 3, 1) := by decide +kernel
theorem dL_law_1045 : decode cL_law 1045 = .ok (.iconst 1, 1) := by decide +kernel
theorem dL_law_1046 : decode cL_law 1046 = .ok (.iadd, 1) := by decide +kernel
theorem dL_law_1047 : decode cL_law 1047 = .ok (.iaload, 1) := by decide +kernel
theorem dL_law_1048 : decode cL_law 1048 = .ok (.aload_n 0, 1) := by decide +kernel
theorem dL_law_1049 : decode cL_law 1049 = .ok (.iload_n 3, 1) := by decide +kernel
theorem dL_law_1050 : decode cL_law 1050 = .ok (.iconst 2, 1) := by decide +kernel
theorem dL_law_1051 : decode cL_law 1051 = .ok (.iadd, 1) := by decide +kernel
theorem dL_law_1052 : decode cL_law 1052 = .ok (.iaload, 1) := by decide +kernel
theorem dL_law_1053 : decode cL_law 1053 = .ok (.invokevirtual 126, 3) := by decide +kernel
theorem dL_law_1056 : decode cL_law 1056 = .ok (.aload_n 2, 1) := by decide +kernel
theorem dL_law_1057 : decode cL_law 1057 = .ok (.aload_n 0, 1) := by decide +kernel
theorem dL_law_1058 : decode cL_law 1058 = .ok (.iload_n 3, 1) := by decide +kernel
theorem dL_law_1059 : decode cL_law 1059 = .ok (.iconst 1, 1) := by decide +kernel
theorem dL_law_1060 : decode cL_law 1060 = .ok (.iadd, 1) := by decide +kernel
theorem dL_law_1061 : decode cL_law 1061 = .ok (.iaload, 1) := by decide +kernel
theorem dL_law_1062 : decode cL_law 1062 = .ok (.aload_n 0, 1) := by decide +kernel
theorem dL_law_1063 : decode cL_law 1063 = .ok (.iload_n 3, 1) := by decide +kernel
theorem dL_law_1064 : decode cL_law 1064 = .ok (.iconst 2, 1) := by decide +kernel
theorem dL_law_1065 : decode cL_law 1065 = .ok (.iadd, 1) := by decide +kernel
theorem dL_law_1066 : decode cL_law 1066 = .ok (.iaload, 1) := by decide +kernel
theorem dL_law_1067 : decode cL_law 1067 = .ok (.invokevirtual 129, 3) := by decide +kernel
theorem dL_law_1070 : decode cL_law 1070 = .ok (.if_icmp .eq 120, 3) := by decide +kernel
theorem dL_law_1073 : decode cL_law 1073 = .ok (.iconst 0, 1) := by decide +kernel
theorem dL_law_1074 : decode cL_law 1074 = .ok (.ireturn, 1) := by decide +kernel
theorem dL_law_1075 : decode cL_law 1075 = .ok (.aload_n 1, 1) := by decide +kernel
theorem dL_law_1076 : decode cL_law 1076 = .ok (.invokevirtual 130, 3) := by decide +kernel
theorem dL_law_1079 : decode cL_law 1079 = .ok (.aload_n 2, 1) := by decide +kernel
theorem dL_law_1080 : decode cL_law 1080 = .ok (.invokevirtual 133, 3) := by decide +kernel
theorem dL_law_1083 : decode cL_law 1083 = .ok (.if_icmp .eq 107, 3) := by decide +kernel
theorem dL_law_1086 : decode cL_law 1086 = .ok (.iconst 0, 1) := by decide +kernel
theorem dL_law_1087 : decode cL_law 1087 = .ok (.ireturn, 1) := by decide +kernel
theorem dL_law_1088 : decode cL_law 1088 = .ok (.aload_n 1, 1) := by decide +kernel
theorem dL_law_1089 : decode cL_law 1089 = .ok (.aload_n 0, 1) := by decide +kernel
theorem dL_law_1090 : decode cL_law 1090 = .ok (.iload_n 3, 1) := by decide +kernel
theorem dL_law_1091 : decode cL_law 1091 = .ok (.iconst 1, 1) := by decide +kernel
theorem dL_law_1092 : decode cL_law 1092 = .ok (.iadd, 1) := by decide +kernel
theorem dL_law_1093 : decode cL_law 1093 = .ok (.iaload, 1) := by decide +kernel
theorem dL_law_1094 : decode cL_law 1094 = .ok (.invokevirtual 134, 3) := by decide +kernel
theorem dL_law_1097 : decode cL_law 1097 = .ok (.aload_n 2, 1) := by decide +kernel
theorem dL_law_1098 : decode cL_law 1098 = .ok (.aload_n 0, 1) := by decide +kernel
theorem dL_law_1099 : decode cL_law 1099 = .ok (.iload_n 3, 1) := by decide +kernel
theorem dL_law_1100 : decode cL_law 1100 = .ok (.iconst 1, 1) := by decide +kernel
theorem dL_law_1101 : decode cL_law 1101 = .ok (.iadd, 1) := by decide +kernel
theorem dL_law_1102 : decode cL_law 1102 = .ok (.iaload, 1) := by decide +kernel
theorem dL_law_1103 : decode cL_law 1103 = .ok (.invokevirtual 137, 3) := by decide +kernel
theorem dL_law_1106 : decode cL_law 1106 = .ok (.if_icmp .eq 84, 3) := by decide +kernel
theorem dL_law_1109 : decode cL_law 1109 = .ok (.iconst 0, 1) := by decide +kernel
theorem dL_law_1110 : decode cL_law 1110 = .ok (.ireturn, 1) := by decide +kernel
theorem dL_law_1111 : decode cL_law 1111 = .ok (.aload_n 1, 1) := by decide +kernel
theorem dL_law_1112 : decode cL_law 1112 = .ok (.aload_n 0, 1) := by decide +kernel
theorem dL_law_1113 : decode cL_law 1113 = .ok (.iload_n 3, 1) := by decide +kernel
theorem dL_law_1114 : decode cL_law 1114 = .ok (.iconst 1, 1) := by decide +kernel
theorem dL_law_1115 : decode cL_law 1115 = .ok (.iadd, 1) := by decide +kernel
theorem dL_law_1116 : decode cL_law 1116 = .ok (.iaload, 1) := by decide +kernel
theorem dL_law_1117 : decode cL_law 1117 = .ok (.aload_n 0, 1) := by decide +kernel
theorem dL_law_1118 : decode cL_law 1118 = .ok (.iload_n 3, 1) := by decide +kernel
theorem dL_law_1119 : decode cL_law 1119 = .ok (.iconst 2, 1) := by decide +kernel
theorem dL_law_1120 : decode cL_law 1120 = .ok (.iadd, 1) := by decide +kernel
theorem dL_law_1121 : decode cL_law 1121 = .ok (.iaload, 1) := by decide +kernel
theorem dL_law_1122 : decode cL_law 1122 = .ok (.invokevirtual 138, 3) := by decide +kernel
theorem dL_law_1125 : decode cL_law 1125 = .ok (.aload_n 2, 1) := by decide +kernel
theorem dL_law_1126 : decode cL_law 1126 = .ok (.aload_n 0, 1) := by decide +kernel
theorem dL_law_1127 : decode cL_law 1127 = .ok (.iload_n 3, 1) := by decide +kernel
theorem dL_law_1128 : decode cL_law 1128 = .ok (.iconst 1, 1) := by decide +kernel
theorem dL_law_1129 : decode cL_law 1129 = .ok (.iadd, 1) := by decide +kernel
theorem dL_law_1130 : decode cL_law 1130 = .ok (.iaload, 1) := by decide +kernel
theorem dL_law_1131 : decode cL_law 1131 = .ok (.aload_n 0, 1) := by decide +kernel
theorem dL_law_1132 : decode cL_law 1132 = .ok (.iload_n 3, 1) := by decide +kernel
theorem dL_law_1133 : decode cL_law 1133 = .ok (.iconst 2, 1) := by decide +kernel
theorem dL_law_1134 : decode cL_law 1134 = .ok (.iadd, 1) := by decide +kernel
theorem dL_law_1135 : decode cL_law 1135 = .ok (.iaload, 1) := by decide +kernel
theorem dL_law_1136 : decode cL_law 1136 = .ok (.invokevirtual 141, 3) := by decide +kernel
theorem dL_law_1139 : decode cL_law 1139 = .ok (.if_icmp .eq 51, 3) := by decide +kernel
theorem dL_law_1142 : decode cL_law 1142 = .ok (.iconst 0, 1) := by decide +kernel
theorem dL_law_1143 : decode cL_law 1143 = .ok (.ireturn, 1) := by decide +kernel
theorem dL_law_1144 : decode cL_law 1144 = .ok (.aload_n 1, 1) := by decide +kernel
theorem dL_law_1145 : decode cL_law 1145 = .ok (.aload_n 0, 1) := by decide +kernel
theorem dL_law_1146 : decode cL_law 1146 = .ok (.iload_n 3, 1) := by decide +kernel
theorem dL_law_1147 : decode cL_law 1147 = .ok (.iconst 1, 1) := by decide +kernel
theorem dL_law_1148 : decode cL_law 1148 = .ok (.iadd, 1) := by decide +kernel
theorem dL_law_1149 : decode cL_law 1149 = .ok (.iaload, 1) := by decide +kernel
theorem dL_law_1150 : decode cL_law 1150 = .ok (.invokevirtual 142, 3) := by decide +kernel
theorem dL_law_1153 : decode cL_law 1153 = .ok (.aload_n 2, 1) := by decide +kernel
theorem dL_law_1154 : decode cL_law 1154 = .ok (.aload_n 0, 1) := by decide +kernel
theorem dL_law_1155 : decode cL_law 1155 = .ok (.iload_n 3, 1) := by decide +kernel
theorem dL_law_1156 : decode cL_law 1156 = .ok (.iconst 1, 1) := by decide +kernel
theorem dL_law_1157 : decode cL_law 1157 = .ok (.iadd, 1) := by decide +kernel
theorem dL_law_1158 : decode cL_law 1158 = .ok (.iaload, 1) := by decide +kernel
theorem dL_law_1159 : decode cL_law 1159 = .ok (.invokevirtual 145, 3) := by decide +kernel
theorem dL_law_1162 : decode cL_law 1162 = .ok (.if_icmp .eq 28, 3) := by decide +kernel
theorem dL_law_1165 : decode cL_law 1165 = .ok (.iconst 0, 1) := by decide +kernel
theorem dL_law_1166 : decode cL_law 1166 = .ok (.ireturn, 1) := by decide +kernel
theorem dL_law_1167 : decode cL_law 1167 = .ok (.aload_n 1, 1) := by decide +kernel
theorem dL_law_1168 : decode cL_law 1168 = .ok (.aload_n 0, 1) := by decide +kernel
theorem dL_law_1169 : decode cL_law 1169 = .ok (.iload_n 3, 1) := by decide +kernel
theorem dL_law_1170 : decode cL_law 1170 = .ok (.iconst 1, 1) := by decide +kernel
theorem dL_law_1171 : decode cL_law 1171 = .ok (.iadd, 1) := by decide +kernel
theorem dL_law_1172 : decode cL_law 1172 = .ok (.iaload, 1) := by decide +kernel
theorem dL_law_1173 : decode cL_law 1173 = .ok (.invokevirtual 146, 3) := by decide +kernel
theorem dL_law_1176 : decode cL_law 1176 = .ok (.aload_n 2, 1) := by decide +kernel
theorem dL_law_1177 : decode cL_law 1177 = .ok (.aload_n 0, 1) := by decide +kernel
theorem dL_law_1178 : decode cL_law 1178 = .ok (.iload_n 3, 1) := by decide +kernel
theorem dL_law_1179 : decode cL_law 1179 = .ok (.iconst 1, 1) := by decide +kernel
theorem dL_law_1180 : decode cL_law 1180 = .ok (.iadd, 1) := by decide +kernel
theorem dL_law_1181 : decode cL_law 1181 = .ok (.iaload, 1) := by decide +kernel
theorem dL_law_1182 : decode cL_law 1182 = .ok (.invokevirtual 149, 3) := by decide +kernel
theorem dL_law_1185 : decode cL_law 1185 = .ok (.if_icmp .eq 5, 3) := by decide +kernel
theorem dL_law_1188 : decode cL_law 1188 = .ok (.iconst 0, 1) := by decide +kernel
theorem dL_law_1189 : decode cL_law 1189 = .ok (.ireturn, 1) := by decide +kernel
theorem dL_law_1190 : decode cL_law 1190 = .ok (.iinc 3 5, 3) := by decide +kernel
theorem dL_law_1193 : decode cL_law 1193 = .ok (.goto (-1175), 3) := by decide +kernel
theorem dL_law_1196 : decode cL_law 1196 = .ok (.iconst 1, 1) := by decide +kernel
theorem dL_law_1197 : decode cL_law 1197 = .ok (.ireturn, 1) := by decide +kernel
