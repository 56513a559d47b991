theorem dX5_get_21 : decode cX5_get 21 = .ok (.ireturn, 1) := by decide +kernel
theorem dX5_put_0 : decode cX5_put 0 = .ok (.aload_n 0, 1) := by decide +kernel
theorem dX5_put_1 : decode cX5_put 1 = .ok (.ifnull 17, 3) := by decide +kernel
theorem dX5_put_4 : decode cX5_put 4 = .ok (.iload_n 1, 1) := by decide +kernel
theorem dX5_put_5 : decode cX5_put 5 = .ok (.ifCond .lt 13, 3) := by decide +kernel
theorem dX5_put_8 : decode cX5_put 8 = .ok (.iload_n 1, 1) := by decide +kernel
theorem dX5_put_9 : decode cX5_put 9 = .ok (.aload_n 0, 1) := by decide +kernel
theorem dX5_put_10 : decode cX5_put 10 = .ok (.arraylength, 1) := by decide +kernel
theorem dX5_put_11 : decode cX5_put 11 = .ok (.if_icmp .ge 7, 3) := by decide +kernel
theorem dX5_put_14 : decode cX5_put 14 = .ok (.aload_n 0, 1) := by decide +kernel
theorem dX5_put_15 : decode cX5_put 15 = .ok (.iload_n 1, 1) := by decide +kernel
theorem dX5_put_16 : decode cX5_put 16 = .ok (.iload_n 2, 1) := by decide +kernel
theorem dX5_put_17 : decode cX5_put 17 = .ok (.iastore, 1) := by decide +kernel
theorem dX5_put_18 : decode cX5_put 18 = .ok (.return_, 1) := by decide +kernel
theorem dX5_fill_0 : decode cX5_fill 0 = .ok (.aload_n 0, 1) := by decide +kernel
theorem dX5_fill_1 : decode cX5_fill 1 = .ok (.ifnull 8, 3) := by decide +kernel
theorem dX5_fill_4 : decode cX5_fill 4 = .ok (.aload_n 0, 1) := by decide +kernel
theorem dX5_fill_5 : decode cX5_fill 5 = .ok (.iload_n 1, 1) := by decide +kernel
theorem dX5_fill_6 : decode cX5_fill 6 = .ok (.invokestatic 7, 3) := by decide +kernel
theorem dX5_fill_9 : decode cX5_fill 9 = .ok (.return_, 1) := by decide +kernel
theorem dX6_init_0 : decode cX6_init 0 = .ok (.aload_n 0, 1) := by decide +kernel
theorem dX6_init_1 : decode cX6_init 1 = .ok (.invokespecial 3, 3) := by decide +kernel
theorem dX6_init_4 : decode cX6_init 4 = .ok (.aload_n 0, 1) := by decide +kernel
theorem dX6_init_5 : decode cX6_init 5 = .ok (.new 9, 3) := by decide +kernel
theorem dX6_init_8 : decode cX6_init 8 = .ok (.dup, 1) := by decide +kernel
theorem dX6_init_9 : decode cX6_init 9 = .ok (.new 9, 3) := by decide +kernel
theorem dX6_init_12 : decode cX6_init 12 = .ok (.dup, 1) := by decide +kernel
theorem dX6_init_13 : decode cX6_init 13 = .ok (.new 9, 3) := by decide +kernel
theorem dX6_init_16 : decode cX6_init 16 = .ok (.dup, 1) := by decide +kernel
theorem dX6_init_17 : decode cX6_init 17 = .ok (.new 9, 3) := by decide +kernel
theorem dX6_init_20 : decode cX6_init 20 = .ok (.dup, 1) := by decide +kernel
theorem dX6_init_21 : decode cX6_init 21 = .ok (.aconst_null, 1) := by decide +kernel
theorem dX6_init_22 : decode cX6_init 22 = .ok (.invokespecial 11, 3) := by decide +kernel
theorem dX6_init_25 : decode cX6_init 25 = .ok (.invokespecial 11, 3) := by decide +kernel
theorem dX6_init_28 : decode cX6_init 28 = .ok (.invokespecial 11, 3) := by decide +kernel
theorem dX6_init_31 : decode cX6_init 31 = .ok (.invokespecial 11, 3) := by decide +kernel
theorem dX6_init_34 : decode cX6_init 34 = .ok (.putfield 14, 3) := by decide +kernel
theorem dX6_init_37 : decode cX6_init 37 = .ok (.aload_n 0, 1) := by decide +kernel
theorem dX6_init_38 : decode cX6_init 38 = .ok (.iconst 3, 1) := by decide +kernel
theorem dX6_init_39 : decode cX6_init 39 = .ok (.newarray .int, 2) := by decide +kernel
theorem dX6_init_41 : decode cX6_init 41 = .ok (.putfield 20, 3) := by decide +kernel
theorem dX6_init_44 : decode cX6_init 44 = .ok (.aload_n 0, 1) := by decide +kernel
theorem dX6_init_45 : decode cX6_init 45 = .ok (.iconst 4, 1) := by decide +kernel
theorem dX6_init_46 : decode cX6_init 46 = .ok (.newarray .int, 2) := by decide +kernel
theorem dX6_init_48 : decode cX6_init 48 = .ok (.putfield 24, 3) := by decide +kernel
theorem dX6_init_51 : decode cX6_init 51 = .ok (.aload_n 0, 1) := by decide +kernel
theorem dX6_init_52 : decode cX6_init 52 = .ok (.aload_n 1, 1) := by decide +kernel
theorem dX6_init_53 : decode cX6_init 53 = .ok (.putfield 27, 3) := by decide +kernel
theorem dX6_init_56 : decode cX6_init 56 = .ok (.aload_n 0, 1) := by decide +kernel
theorem dX6_init_57 : decode cX6_init 57 = .ok (.aload_n 2, 1) := by decide +kernel
theorem dX6_init_58 : decode cX6_init 58 = .ok (.putfield 31, 3) := by decide +kernel
theorem dX6_init_61 : decode cX6_init 61 = .ok (.return_, 1) := by decide +kernel
theorem dX6_forget_0 : decode cX6_forget 0 = .ok (.aload_n 0, 1) := by decide +kernel
theorem dX6_forget_1 : decode cX6_forget 1 = .ok (.iconst 0, 1) := by decide +kernel
theorem dX6_forget_2 : decode cX6_forget 2 = .ok (.putfield 35, 3) := by decide +kernel
theorem dX6_forget_5 : decode cX6_forget 5 = .ok (.aload_n 0, 1) := by decide +kernel
theorem dX6_forget_6 : decode cX6_forget 6 = .ok (.iconst 0, 1) := by decide +kernel
theorem dX6_forget_7 : decode cX6_forget 7 = .ok (.putfield 39, 3) := by decide +kernel
theorem dX6_forget_10 : decode cX6_forget 10 = .ok (.aload_n 0, 1) := by decide +kernel
theorem dX6_forget_11 : decode cX6_forget 11 = .ok (.iconst 0, 1) := by decide +kernel
theorem dX6_forget_12 : decode cX6_forget 12 = .ok (.putfield 42, 3) := by decide +kernel
theorem dX6_forget_15 : decode cX6_forget 15 = .ok (.aload_n 0, 1) := by decide +kernel
theorem dX6_forget_16 : decode cX6_forget 16 = .ok (.ldc 45, 2) := by decide +kernel
theorem dX6_forget_18 : decode cX6_forget 18 = .ok (.putfield 46, 3) := by decide +kernel
theorem dX6_forget_21 : decode cX6_forget 21 = .ok (.aload_n 0, 1) := by decide +kernel
theorem dX6_forget_22 : decode cX6_forget 22 = .ok (.ldc 45, 2) := by decide +kernel
theorem dX6_forget_24 : decode cX6_forget 24 = .ok (.putfield 49, 3) := by decide +kernel
theorem dX6_forget_27 : decode cX6_forget 27 = .ok (.return_, 1) := by decide +kernel
theorem dX6_solve_0 : decode cX6_solve 0 = .ok (.aload_n 0, 1) := by decide +kernel
theorem dX6_solve_1 : decode cX6_solve 1 = .ok (.getfield 35, 3) := by decide +kernel
theorem dX6_solve_4 : decode cX6_solve 4 = .ok (.ifCond .ne 18, 3) := by decide +kernel
theorem dX6_solve_7 : decode cX6_solve 7 = .ok (.aload_n 0, 1) := by decide +kernel
theorem dX6_solve_8 : decode cX6_solve 8 = .ok (.getfield 14, 3) := by decide +kernel
theorem dX6_solve_11 : decode cX6_solve 11 = .ok (.aload_n 0, 1) := by decide +kernel
theorem dX6_solve_12 : decode cX6_solve 12 = .ok (.getfield 27, 3) := by decide +kernel
theorem dX6_solve_15 : decode cX6_solve 15 = .ok (.aload_n 0, 1) := by decide +kernel
theorem dX6_solve_16 : decode cX6_solve 16 = .ok (.getfield 31, 3) := by decide +kernel
theorem dX6_solve_19 : decode cX6_solve 19 = .ok (.invokevirtual 52, 3) := by decide +kernel
theorem dX6_solve_22 : decode cX6_solve 22 = .ok (.aload_n 0, 1) := by decide +kernel
theorem dX6_solve_23 : decode cX6_solve 23 = .ok (.getfield 35, 3) := by decide +kernel
theorem dX6_solve_26 : decode cX6_solve 26 = .ok (.iload_n 1, 1) := by decide +kernel
theorem dX6_solve_27 : decode cX6_solve 27 = .ok (.if_icmp .gt 42, 3) := by decide +kernel
theorem dX6_solve_30 : decode cX6_solve 30 = .ok (.aload_n 0, 1) := by decide +kernel
theorem dX6_solve_31 : decode cX6_solve 31 = .ok (.getfield 46, 3) := by decide +kernel
theorem dX6_solve_34 : decode cX6_solve 34 = .ok (.ldc 45, 2) := by decide +kernel
theorem dX6_solve_36 : decode cX6_solve 36 = .ok (.if_icmp .ne 33, 3) := by decide +kernel
theorem dX6_solve_39 : decode cX6_solve 39 = .ok (.aload_n 0, 1) := by decide +kernel
theorem dX6_solve_40 : decode cX6_solve 40 = .ok (.getfield 49, 3) := by decide +kernel
theorem dX6_solve_43 : decode cX6_solve 43 = .ok (.ldc 45, 2) := by decide +kernel
theorem dX6_solve_45 : decode cX6_solve 45 = .ok (.if_icmp .ne 24, 3) := by decide +kernel
theorem dX6_solve_48 : decode cX6_solve 48 = .ok (.aload_n 0, 1) := by decide +kernel
theorem dX6_solve_49 : decode cX6_solve 49 = .ok (.aload_n 0, 1) := by decide +kernel
theorem dX6_solve_50 : decode cX6_solve 50 = .ok (.getfield 35, 3) := by decide +kernel
theorem dX6_solve_53 : decode cX6_solve 53 = .ok (.invokevirtual 56, 3) := by decide +kernel
theorem dX6_solve_56 : decode cX6_solve 56 = .ok (.aload_n 0, 1) := by decide +kernel
theorem dX6_solve_57 : decode cX6_solve 57 = .ok (.dup, 1) := by decide +kernel
theorem dX6_solve_58 : decode cX6_solve 58 = .ok (.getfield 35, 3) := by decide +kernel
theorem dX6_solve_61 : decode cX6_solve 61 = .ok (.iconst 1, 1) := by decide +kernel
theorem dX6_solve_62 : decode cX6_solve 62 = .ok (.iadd, 1) := by decide +kernel
theorem dX6_solve_63 : decode cX6_solve 63 = .ok (.putfield 35, 3) := by decide +kernel
theorem dX6_solve_66 : decode cX6_solve 66 = .ok (.goto (-44), 3) := by decide +kernel
theorem dX6_solve_69 : decode cX6_solve 69 = .ok (.aload_n 0, 1) := by decide +kernel
theorem dX6_solve_70 : decode cX6_solve 70 = .ok (.getfield 49, 3) := by decide +kernel
theorem dX6_solve_73 : decode cX6_solve 73 = .ok (.ldc 45, 2) := by decide +kernel
theorem dX6_solve_75 : decode cX6_solve 75 = .ok (.if_icmp .eq 14, 3) := by decide +kernel
theorem dX6_solve_78 : decode cX6_solve 78 = .ok (.aload_n 0, 1) := by decide +kernel
theorem dX6_solve_79 : decode cX6_solve 79 = .ok (.getfield 49, 3) := by decide +kernel
theorem dX6_solve_82 : decode cX6_solve 82 = .ok (.iload_n 1, 1) := by decide +kernel
theorem dX6_solve_83 : decode cX6_solve 83 = .ok (.if_icmp .gt 6, 3) := by decide +kernel
theorem dX6_solve_86 : decode cX6_solve 86 = .ok (.bipush (-5), 2) := by decide +kernel
theorem dX6_solve_88 : decode cX6_solve 88 = .ok (.ireturn, 1) := by decide +kernel
theorem dX6_solve_89 : decode cX6_solve 89 = .ok (.aload_n 0, 1) := by decide +kernel
theorem dX6_solve_90 : decode cX6_solve 90 = .ok (.getfield 46, 3) := by decide +kernel
theorem dX6_solve_93 : decode cX6_solve 93 = .ok (.iload_n 1, 1) := by decide +kernel
theorem dX6_solve_94 : decode cX6_solve 94 = .ok (.if_icmp .gt 10, 3) := by decide +kernel
theorem dX6_solve_97 : decode cX6_solve 97 = .ok (.aload_n 0, 1) := by decide +kernel
theorem dX6_solve_98 : decode cX6_solve 98 = .ok (.getfield 46, 3) := by decide +kernel
theorem dX6_solve_101 : decode cX6_solve 101 = .ok (.goto 5, 3) := by decide +kernel
theorem dX6_solve_104 : decode cX6_solve 104 = .ok (.ldc 45, 2) := by decide +kernel
theorem dX6_solve_106 : decode cX6_solve 106 = .ok (.ireturn, 1) := by decide +kernel
theorem dX6_told_0 : decode cX6_told 0 = .ok (.iload_n 1, 1) := by decide +kernel
theorem dX6_told_1 : decode cX6_told 1 = .ok (.ifCond .lt 19, 3) := by decide +kernel
theorem dX6_told_4 : decode cX6_told 4 = .ok (.iload_n 1, 1) := by decide +kernel
theorem dX6_told_5 : decode cX6_told 5 = .ok (.iload_n 2, 1) := by decide +kernel
theorem dX6_told_6 : decode cX6_told 6 = .ok (.if_icmp .gt 14, 3) := by decide +kernel
theorem dX6_told_9 : decode cX6_told 9 = .ok (.aload_n 0, 1) := by decide +kernel
theorem dX6_told_10 : decode cX6_told 10 = .ok (.getfield 24, 3) := by decide +kernel
theorem dX6_told_13 : decode cX6_told 13 = .ok (.iload_n 1, 1) := by decide +kernel
theorem dX6_told_14 : decode cX6_told 14 = .ok (.invokestatic 60, 3) := by decide +kernel
theorem dX6_told_17 : decode cX6_told 17 = .ok (.goto 5, 3) := by decide +kernel
theorem dX6_told_20 : decode cX6_told 20 = .ok (.ldc 45, 2) := by decide +kernel
theorem dX6_told_22 : decode cX6_told 22 = .ok (.ireturn, 1) := by decide +kernel
theorem dX6_tryRows_0 : decode cX6_tryRows 0 = .ok (.aload_n 0, 1) := by decide +kernel
theorem dX6_tryRows_1 : decode cX6_tryRows 1 = .ok (.iload_n 1, 1) := by decide +kernel
theorem dX6_tryRows_2 : decode cX6_tryRows 2 = .ok (.putfield 66, 3) := by decide +kernel
theorem dX6_tryRows_5 : decode cX6_tryRows 5 = .ok (.aload_n 0, 1) := by decide +kernel
theorem dX6_tryRows_6 : decode cX6_tryRows 6 = .ok (.iconst 1, 1) := by decide +kernel
theorem dX6_tryRows_7 : decode cX6_tryRows 7 = .ok (.putfield 69, 3) := by decide +kernel
theorem dX6_tryRows_10 : decode cX6_tryRows 10 = .ok (.aload_n 0, 1) := by decide +kernel
theorem dX6_tryRows_11 : decode cX6_tryRows 11 = .ok (.aload_n 0, 1) := by decide +kernel
theorem dX6_tryRows_12 : decode cX6_tryRows 12 = .ok (.getfield 14, 3) := by decide +kernel
theorem dX6_tryRows_15 : decode cX6_tryRows 15 = .ok (.iconst 0, 1) := by decide +kernel
theorem dX6_tryRows_16 : decode cX6_tryRows 16 = .ok (.invokestatic 73, 3) := by decide +kernel
theorem dX6_tryRows_19 : decode cX6_tryRows 19 = .ok (.aload_n 0, 1) := by decide +kernel
theorem dX6_tryRows_20 : decode cX6_tryRows 20 = .ok (.getfield 39, 3) := by decide +kernel
theorem dX6_tryRows_23 : decode cX6_tryRows 23 = .ok (.sipush 3000, 3) := by decide +kernel
theorem dX6_tryRows_26 : decode cX6_tryRows 26 = .ok (.if_icmp .le 9, 3) := by decide +kernel
theorem dX6_tryRows_29 : decode cX6_tryRows 29 = .ok (.aload_n 0, 1) := by decide +kernel
theorem dX6_tryRows_30 : decode cX6_tryRows 30 = .ok (.iload_n 1, 1) := by decide +kernel
theorem dX6_tryRows_31 : decode cX6_tryRows 31 = .ok (.putfield 49, 3) := by decide +kernel
theorem dX6_tryRows_34 : decode cX6_tryRows 34 = .ok (.return_, 1) := by decide +kernel
theorem dX6_tryRows_35 : decode cX6_tryRows 35 = .ok (.aload_n 0, 1) := by decide +kernel
theorem dX6_tryRows_36 : decode cX6_tryRows 36 = .ok (.iconst 0, 1) := by decide +kernel
theorem dX6_tryRows_37 : decode cX6_tryRows 37 = .ok (.putfield 69, 3) := by decide +kernel
theorem dX6_tryRows_40 : decode cX6_tryRows 40 = .ok (.aload_n 0, 1) := by decide +kernel
theorem dX6_tryRows_41 : decode cX6_tryRows 41 = .ok (.aload_n 0, 1) := by decide +kernel
theorem dX6_tryRows_42 : decode cX6_tryRows 42 = .ok (.getfield 14, 3) := by decide +kernel
theorem dX6_tryRows_45 : decode cX6_tryRows 45 = .ok (.iconst 0, 1) := by decide +kernel
theorem dX6_tryRows_46 : decode cX6_tryRows 46 = .ok (.invokestatic 73, 3) := by decide +kernel
theorem dX6_tryRows_49 : decode cX6_tryRows 49 = .ok (.aload_n 0, 1) := by decide +kernel
theorem dX6_tryRows_50 : decode cX6_tryRows 50 = .ok (.getfield 42, 3) := by decide +kernel
theorem dX6_tryRows_53 : decode cX6_tryRows 53 = .ok (.ifCond .le 8, 3) := by decide +kernel
theorem dX6_tryRows_56 : decode cX6_tryRows 56 = .ok (.aload_n 0, 1) := by decide +kernel
theorem dX6_tryRows_57 : decode cX6_tryRows 57 = .ok (.iload_n 1, 1) := by decide +kernel
theorem dX6_tryRows_58 : decode cX6_tryRows 58 = .ok (.putfield 46, 3) := by decide +kernel
theorem dX6_tryRows_61 : decode cX6_tryRows 61 = .ok (.return_, 1) := by decide +kernel
theorem dX6_lengthen_0 : decode cX6_lengthen 0 = .ok (.aload_n 1, 1) := by decide +kernel
theorem dX6_lengthen_1 : decode cX6_lengthen 1 = .ok (.getfield 77, 3) := by decide +kernel
theorem dX6_lengthen_4 : decode cX6_lengthen 4 = .ok (.astore_n 3, 1) := by decide +kernel
theorem dX6_lengthen_5 : decode cX6_lengthen 5 = .ok (.iload_n 2, 1) := by decide +kernel
theorem dX6_lengthen_6 : decode cX6_lengthen 6 = .ok (.aload_n 0, 1) := by decide +kernel
theorem dX6_lengthen_7 : decode cX6_lengthen 7 = .ok (.getfield 66, 3) := by decide +kernel
theorem dX6_lengthen_10 : decode cX6_lengthen 10 = .ok (.if_icmp .ge 7, 3) := by decide +kernel
theorem dX6_lengthen_13 : decode cX6_lengthen 13 = .ok (.aload_n 3, 1) := by decide +kernel
theorem dX6_lengthen_14 : decode cX6_lengthen 14 = .ok (.ifnonnull 9, 3) := by decide +kernel
theorem dX6_lengthen_17 : decode cX6_lengthen 17 = .ok (.aload_n 0, 1) := by decide +kernel
theorem dX6_lengthen_18 : decode cX6_lengthen 18 = .ok (.aload_n 1, 1) := by decide +kernel
theorem dX6_lengthen_19 : decode cX6_lengthen 19 = .ok (.invokevirtual 80, 3) := by decide +kernel
theorem dX6_lengthen_22 : decode cX6_lengthen 22 = .ok (.return_, 1) := by decide +kernel
theorem dX6_lengthen_23 : decode cX6_lengthen 23 = .ok (.iload_n 2, 1) := by decide +kernel
theorem dX6_lengthen_24 : decode cX6_lengthen 24 = .ok (.iconst 1, 1) := by decide +kernel
theorem dX6_lengthen_25 : decode cX6_lengthen 25 = .ok (.iadd, 1) := by decide +kernel
theorem dX6_lengthen_26 : decode cX6_lengthen 26 = .ok (.aload_n 0, 1) := by decide +kernel
theorem dX6_lengthen_27 : decode cX6_lengthen 27 = .ok (.getfield 66, 3) := by decide +kernel
theorem dX6_lengthen_30 : decode cX6_lengthen 30 = .ok (.if_icmp .ne 7, 3) := by decide +kernel
theorem dX6_lengthen_33 : decode cX6_lengthen 33 = .ok (.iconst 1, 1) := by decide +kernel
theorem dX6_lengthen_34 : decode cX6_lengthen 34 = .ok (.goto 4, 3) := by decide +kernel
theorem dX6_lengthen_37 : decode cX6_lengthen 37 = .ok (.iconst 0, 1) := by decide +kernel
theorem dX6_lengthen_38 : decode cX6_lengthen 38 = .ok (.istore 4, 2) := by decide +kernel
theorem dX6_lengthen_40 : decode cX6_lengthen 40 = .ok (.aload_n 1, 1) := by decide +kernel
theorem dX6_lengthen_41 : decode cX6_lengthen 41 = .ok (.invokevirtual 83, 3) := by decide +kernel
theorem dX6_lengthen_44 : decode cX6_lengthen 44 = .ok (.bipush 48, 2) := by decide +kernel
theorem dX6_lengthen_46 : decode cX6_lengthen 46 = .ok (.invokestatic 89, 3) := by decide +kernel
theorem dX6_lengthen_49 : decode cX6_lengthen 49 = .ok (.istore 5, 2) := by decide +kernel
theorem dX6_lengthen_51 : decode cX6_lengthen 51 = .ok (.aload_n 1, 1) := by decide +kernel
theorem dX6_lengthen_52 : decode cX6_lengthen 52 = .ok (.invokevirtual 95, 3) := by decide +kernel
theorem dX6_lengthen_55 : decode cX6_lengthen 55 = .ok (.iconst 1, 1) := by decide +kernel
theorem dX6_lengthen_56 : decode cX6_lengthen 56 = .ok (.iadd, 1) := by decide +kernel
theorem dX6_lengthen_57 : decode cX6_lengthen 57 = .ok (.bipush (-24), 2) := by decide +kernel
theorem dX6_lengthen_59 : decode cX6_lengthen 59 = .ok (.invokestatic 98, 3) := by decide +kernel
theorem dX6_lengthen_62 : decode cX6_lengthen 62 = .ok (.istore 6, 2) := by decide +kernel
theorem dX6_lengthen_64 : decode cX6_lengthen 64 = .ok (.iload 6, 2) := by decide +kernel
theorem dX6_lengthen_66 : decode cX6_lengthen 66 = .ok (.iload 5, 2) := by decide +kernel
theorem dX6_lengthen_68 : decode cX6_lengthen 68 = .ok (.if_icmp .gt 169, 3) := by decide +kernel
theorem dX6_lengthen_71 : decode cX6_lengthen 71 = .ok (.iconst 0, 1) := by decide +kernel
theorem dX6_lengthen_72 : decode cX6_lengthen 72 = .ok (.istore 7, 2) := by decide +kernel
theorem dX6_lengthen_74 : decode cX6_lengthen 74 = .ok (.iload 7, 2) := by decide +kernel
theorem dX6_lengthen_76 : decode cX6_lengthen 76 = .ok (.iconst 4, 1) := by decide +kernel
theorem dX6_lengthen_77 : decode cX6_lengthen 77 = .ok (.if_icmp .ge 154, 3) := by decide +kernel
theorem dX6_lengthen_80 : decode cX6_lengthen 80 = .ok (.aload_n 0, 1) := by decide +kernel
theorem dX6_lengthen_81 : decode cX6_lengthen 81 = .ok (.getfield 39, 3) := by decide +kernel
theorem dX6_lengthen_84 : decode cX6_lengthen 84 = .ok (.sipush 3000, 3) := by decide +kernel
theorem dX6_lengthen_87 : decode cX6_lengthen 87 = .ok (.if_icmp .gt 29, 3) := by decide +kernel
theorem dX6_lengthen_90 : decode cX6_lengthen 90 = .ok (.aload_n 1, 1) := by decide +kernel
theorem dX6_lengthen_91 : decode cX6_lengthen 91 = .ok (.iload 7, 2) := by decide +kernel
theorem dX6_lengthen_93 : decode cX6_lengthen 93 = .ok (.iload 6, 2) := by decide +kernel
theorem dX6_lengthen_95 : decode cX6_lengthen 95 = .ok (.invokevirtual 101, 3) := by decide +kernel
theorem dX6_lengthen_98 : decode cX6_lengthen 98 = .ok (.ifCond .eq 18, 3) := by decide +kernel
theorem dX6_lengthen_101 : decode cX6_lengthen 101 = .ok (.aload_n 1, 1) := by decide +kernel
theorem dX6_lengthen_102 : decode cX6_lengthen 102 = .ok (.iload 7, 2) := by decide +kernel
theorem dX6_lengthen_104 : decode cX6_lengthen 104 = .ok (.iload 6, 2) := by decide +kernel
theorem dX6_lengthen_106 : decode cX6_lengthen 106 = .ok (.invokevirtual 105, 3) := by decide +kernel
theorem dX6_lengthen_109 : decode cX6_lengthen 109 = .ok (.ifCond .eq 7, 3) := by decide +kernel
theorem dX6_lengthen_112 : decode cX6_lengthen 112 = .ok (.iconst 1, 1) := by decide +kernel
theorem dX6_lengthen_113 : decode cX6_lengthen 113 = .ok (.goto 4, 3) := by decide +kernel
theorem dX6_lengthen_116 : decode cX6_lengthen 116 = .ok (.iconst 0, 1) := by decide +kernel
theorem dX6_lengthen_117 : decode cX6_lengthen 117 = .ok (.istore 8, 2) := by decide +kernel
theorem dX6_lengthen_119 : decode cX6_lengthen 119 = .ok (.iload 8, 2) := by decide +kernel
theorem dX6_lengthen_121 : decode cX6_lengthen 121 = .ok (.ifCond .eq 19, 3) := by decide +kernel
theorem dX6_lengthen_124 : decode cX6_lengthen 124 = .ok (.iload 4, 2) := by decide +kernel
theorem dX6_lengthen_126 : decode cX6_lengthen 126 = .ok (.ifCond .eq 14, 3) := by decide +kernel
theorem dX6_lengthen_129 : decode cX6_lengthen 129 = .ok (.aload_n 0, 1) := by decide +kernel
theorem dX6_lengthen_130 : decode cX6_lengthen 130 = .ok (.getfield 69, 3) := by decide +kernel
theorem dX6_lengthen_133 : decode cX6_lengthen 133 = .ok (.ifCond .eq 7, 3) := by decide +kernel
theorem dX6_lengthen_136 : decode cX6_lengthen 136 = .ok (.iconst 1, 1) := by decide +kernel
theorem dX6_lengthen_137 : decode cX6_lengthen 137 = .ok (.goto 4, 3) := by decide +kernel
theorem dX6_lengthen_140 : decode cX6_lengthen 140 = .ok (.iconst 0, 1) := by decide +kernel
theorem dX6_lengthen_141 : decode cX6_lengthen 141 = .ok (.istore 9, 2) := by decide +kernel
theorem dX6_lengthen_143 : decode cX6_lengthen 143 = .ok (.aload_n 0, 1) := by decide +kernel
theorem dX6_lengthen_144 : decode cX6_lengthen 144 = .ok (.dup, 1) := by decide +kernel
theorem dX6_lengthen_145 : decode cX6_lengthen 145 = .ok (.getfield 39, 3) := by decide +kernel
theorem dX6_lengthen_148 : decode cX6_lengthen 148 = .ok (.iload 9, 2) := by decide +kernel
theorem dX6_lengthen_150 : decode cX6_lengthen 150 = .ok (.ifCond .eq 7, 3) := by decide +kernel
theorem dX6_lengthen_153 : decode cX6_lengthen 153 = .ok (.iconst 2, 1) := by decide +kernel
theorem dX6_lengthen_154 : decode cX6_lengthen 154 = .ok (.goto 4, 3) := by decide +kernel
theorem dX6_lengthen_157 : decode cX6_lengthen 157 = .ok (.iconst 0, 1) := by decide +kernel
theorem dX6_lengthen_158 : decode cX6_lengthen 158 = .ok (.iadd, 1) := by decide +kernel
theorem dX6_lengthen_159 : decode cX6_lengthen 159 = .ok (.putfield 39, 3) := by decide +kernel
theorem dX6_lengthen_162 : decode cX6_lengthen 162 = .ok (.iconst 0, 1) := by decide +kernel
theorem dX6_lengthen_163 : decode cX6_lengthen 163 = .ok (.istore 10, 2) := by decide +kernel
theorem dX6_lengthen_165 : decode cX6_lengthen 165 = .ok (.iload 10, 2) := by decide +kernel
theorem dX6_lengthen_167 : decode cX6_lengthen 167 = .ok (.iconst 2, 1) := by decide +kernel
theorem dX6_lengthen_168 : decode cX6_lengthen 168 = .ok (.if_icmp .ge 57, 3) := by decide +kernel
theorem dX6_lengthen_171 : decode cX6_lengthen 171 = .ok (.iload 8, 2) := by decide +kernel
theorem dX6_lengthen_173 : decode cX6_lengthen 173 = .ok (.ifCond .eq 52, 3) := by decide +kernel
theorem dX6_lengthen_176 : decode cX6_lengthen 176 = .ok (.iload 9, 2) := by decide +kernel
theorem dX6_lengthen_178 : decode cX6_lengthen 178 = .ok (.ifCond .ne 47, 3) := by decide +kernel
theorem dX6_lengthen_181 : decode cX6_lengthen 181 = .ok (.aload_n 0, 1) := by decide +kernel
theorem dX6_lengthen_182 : decode cX6_lengthen 182 = .ok (.getfield 20, 3) := by decide +kernel
theorem dX6_lengthen_185 : decode cX6_lengthen 185 = .ok (.iload_n 2, 1) := by decide +kernel
theorem dX6_lengthen_186 : decode cX6_lengthen 186 = .ok (.iload 7, 2) := by decide +kernel
theorem dX6_lengthen_188 : decode cX6_lengthen 188 = .ok (.iload 6, 2) := by decide +kernel
theorem dX6_lengthen_190 : decode cX6_lengthen 190 = .ok (.iload 10, 2) := by decide +kernel
theorem dX6_lengthen_192 : decode cX6_lengthen 192 = .ok (.invokestatic 108, 3) := by decide +kernel
theorem dX6_lengthen_195 : decode cX6_lengthen 195 = .ok (.invokestatic 112, 3) := by decide +kernel
theorem dX6_lengthen_198 : decode cX6_lengthen 198 = .ok (.aload_n 1, 1) := by decide +kernel
theorem dX6_lengthen_199 : decode cX6_lengthen 199 = .ok (.aload_n 3, 1) := by decide +kernel
theorem dX6_lengthen_200 : decode cX6_lengthen 200 = .ok (.iload 7, 2) := by decide +kernel
theorem dX6_lengthen_202 : decode cX6_lengthen 202 = .ok (.iload 6, 2) := by decide +kernel
theorem dX6_lengthen_204 : decode cX6_lengthen 204 = .ok (.iload 10, 2) := by decide +kernel
theorem dX6_lengthen_206 : decode cX6_lengthen 206 = .ok (.iload 4, 2) := by decide +kernel
theorem dX6_lengthen_208 : decode cX6_lengthen 208 = .ok (.invokevirtual 116, 3) := by decide +kernel
theorem dX6_lengthen_211 : decode cX6_lengthen 211 = .ok (.aload_n 0, 1) := by decide +kernel
theorem dX6_lengthen_212 : decode cX6_lengthen 212 = .ok (.aload_n 3, 1) := by decide +kernel
theorem dX6_lengthen_213 : decode cX6_lengthen 213 = .ok (.iload_n 2, 1) := by decide +kernel
theorem dX6_lengthen_214 : decode cX6_lengthen 214 = .ok (.iconst 1, 1) := by decide +kernel
theorem dX6_lengthen_215 : decode cX6_lengthen 215 = .ok (.iadd, 1) := by decide +kernel
theorem dX6_lengthen_216 : decode cX6_lengthen 216 = .ok (.invokestatic 73, 3) := by decide +kernel
theorem dX6_lengthen_219 : decode cX6_lengthen 219 = .ok (.iinc 10 1, 3) := by decide +kernel
theorem dX6_lengthen_222 : decode cX6_lengthen 222 = .ok (.goto (-57), 3) := by decide +kernel
theorem dX6_lengthen_225 : decode cX6_lengthen 225 = .ok (.iinc 7 1, 3) := by decide +kernel
theorem dX6_lengthen_228 : decode cX6_lengthen 228 = .ok (.goto (-154), 3) := by decide +kernel
theorem dX6_lengthen_231 : decode cX6_lengthen 231 = .ok (.iinc 6 1, 3) := by decide +kernel
theorem dX6_lengthen_234 : decode cX6_lengthen 234 = .ok (.goto (-170), 3) := by decide +kernel
theorem dX6_lengthen_237 : decode cX6_lengthen 237 = .ok (.return_, 1) := by decide +kernel
theorem dX6_weigh_0 : decode cX6_weigh 0 = .ok (.aload_n 0, 1) := by decide +kernel
theorem dX6_weigh_1 : decode cX6_weigh 1 = .ok (.getfield 69, 3) := by decide +kernel
theorem dX6_weigh_4 : decode cX6_weigh 4 = .ok (.ifCond .eq 7, 3) := by decide +kernel
theorem dX6_weigh_7 : decode cX6_weigh 7 = .ok (.iconst 0, 1) := by decide +kernel
theorem dX6_weigh_8 : decode cX6_weigh 8 = .ok (.goto 7, 3) := by decide +kernel
theorem dX6_weigh_11 : decode cX6_weigh 11 = .ok (.aload_n 1, 1) := by decide +kernel
theorem dX6_weigh_12 : decode cX6_weigh 12 = .ok (.invokevirtual 120, 3) := by decide +kernel
theorem dX6_weigh_15 : decode cX6_weigh 15 = .ok (.istore_n 2, 1) := by decide +kernel
theorem dX6_weigh_16 : decode cX6_weigh 16 = .ok (.iload_n 2, 1) := by decide +kernel
theorem dX6_weigh_17 : decode cX6_weigh 17 = .ok (.ifCond .le 57, 3) := by decide +kernel
theorem dX6_weigh_20 : decode cX6_weigh 20 = .ok (.aload_n 0, 1) := by decide +kernel
theorem dX6_weigh_21 : decode cX6_weigh 21 = .ok (.getfield 42, 3) := by decide +kernel
theorem dX6_weigh_24 : decode cX6_weigh 24 = .ok (.ifCond .ne 50, 3) := by decide +kernel
theorem dX6_weigh_27 : decode cX6_weigh 27 = .ok (.iconst 0, 1) := by decide +kernel
theorem dX6_weigh_28 : decode cX6_weigh 28 = .ok (.istore_n 3, 1) := by decide +kernel
theorem dX6_weigh_29 : decode cX6_weigh 29 = .ok (.iload_n 3, 1) := by decide +kernel
theorem dX6_weigh_30 : decode cX6_weigh 30 = .ok (.aload_n 0, 1) := by decide +kernel
theorem dX6_weigh_31 : decode cX6_weigh 31 = .ok (.getfield 66, 3) := by decide +kernel
theorem dX6_weigh_34 : decode cX6_weigh 34 = .ok (.if_icmp .ge 25, 3) := by decide +kernel
theorem dX6_weigh_37 : decode cX6_weigh 37 = .ok (.aload_n 0, 1) := by decide +kernel
theorem dX6_weigh_38 : decode cX6_weigh 38 = .ok (.getfield 24, 3) := by decide +kernel
theorem dX6_weigh_41 : decode cX6_weigh 41 = .ok (.iload_n 3, 1) := by decide +kernel
theorem dX6_weigh_42 : decode cX6_weigh 42 = .ok (.aload_n 0, 1) := by decide +kernel
theorem dX6_weigh_43 : decode cX6_weigh 43 = .ok (.getfield 20, 3) := by decide +kernel
theorem dX6_weigh_46 : decode cX6_weigh 46 = .ok (.iload_n 3, 1) := by decide +kernel
theorem dX6_weigh_47 : decode cX6_weigh 47 = .ok (.invokestatic 60, 3) := by decide +kernel
theorem dX6_weigh_50 : decode cX6_weigh 50 = .ok (.invokestatic 112, 3) := by decide +kernel
theorem dX6_weigh_53 : decode cX6_weigh 53 = .ok (.iinc 3 1, 3) := by decide +kernel
theorem dX6_weigh_56 : decode cX6_weigh 56 = .ok (.goto (-27), 3) := by decide +kernel
theorem dX6_weigh_59 : decode cX6_weigh 59 = .ok (.aload_n 0, 1) := by decide +kernel
theorem dX6_weigh_60 : decode cX6_weigh 60 = .ok (.getfield 24, 3) := by decide +kernel
theorem dX6_weigh_63 : decode cX6_weigh 63 = .ok (.aload_n 0, 1) := by decide +kernel
theorem dX6_weigh_64 : decode cX6_weigh 64 = .ok (.getfield 66, 3) := by decide +kernel
theorem dX6_weigh_67 : decode cX6_weigh 67 = .ok (.aload_n 1, 1) := by decide +kernel
theorem dX6_weigh_68 : decode cX6_weigh 68 = .ok (.invokevirtual 123, 3) := by decide +kernel
theorem dX6_weigh_71 : decode cX6_weigh 71 = .ok (.invokestatic 112, 3) := by decide +kernel
theorem dX6_weigh_74 : decode cX6_weigh 74 = .ok (.aload_n 0, 1) := by decide +kernel
theorem dX6_weigh_75 : decode cX6_weigh 75 = .ok (.dup, 1) := by decide +kernel
theorem dX6_weigh_76 : decode cX6_weigh 76 = .ok (.getfield 42, 3) := by decide +kernel
theorem dX6_weigh_79 : decode cX6_weigh 79 = .ok (.iload_n 2, 1) := by decide +kernel
theorem dX6_weigh_80 : decode cX6_weigh 80 = .ok (.iadd, 1) := by decide +kernel
theorem dX6_weigh_81 : decode cX6_weigh 81 = .ok (.putfield 42, 3) := by decide +kernel
theorem dX6_weigh_84 : decode cX6_weigh 84 = .ok (.return_, 1) := by decide +kernel
theorem dX6_tell_0 : decode cX6_tell 0 = .ok (.sipush 1000, 3) := by decide +kernel
theorem dX6_tell_3 : decode cX6_tell 3 = .ok (.bipush 100, 2) := by decide +kernel
theorem dX6_tell_5 : decode cX6_tell 5 = .ok (.iload_n 1, 1) := by decide +kernel
theorem dX6_tell_6 : decode cX6_tell 6 = .ok (.imul, 1) := by decide +kernel
theorem dX6_tell_7 : decode cX6_tell 7 = .ok (.iadd, 1) := by decide +kernel
theorem dX6_tell_8 : decode cX6_tell 8 = .ok (.bipush 10, 2) := by decide +kernel
theorem dX6_tell_10 : decode cX6_tell 10 = .ok (.iload_n 0, 1) := by decide +kernel
theorem dX6_tell_11 : decode cX6_tell 11 = .ok (.imul, 1) := by decide +kernel
theorem dX6_tell_12 : decode cX6_tell 12 = .ok (.iadd, 1) := by decide +kernel
theorem dX6_tell_13 : decode cX6_tell 13 = .ok (.iload_n 2, 1) := by decide +kernel
theorem dX6_tell_14 : decode cX6_tell 14 = .ok (.iadd, 1) := by decide +kernel
theorem dX6_tell_15 : decode cX6_tell 15 = .ok (.ireturn, 1) := by decide +kernel
theorem dX7_init_0 : decode cX7_init 0 = .ok (.aload_n 0, 1) := by decide +kernel
theorem dX7_init_1 : decode cX7_init 1 = .ok (.invokespecial 3, 3) := by decide +kernel
theorem dX7_init_4 : decode cX7_init 4 = .ok (.aload_n 0, 1) := by decide +kernel
theorem dX7_init_5 : decode cX7_init 5 = .ok (.sipush 144, 3) := by decide +kernel
theorem dX7_init_8 : decode cX7_init 8 = .ok (.newarray .int, 2) := by decide +kernel
theorem dX7_init_10 : decode cX7_init 10 = .ok (.putfield 9, 3) := by decide +kernel
theorem dX7_init_13 : decode cX7_init 13 = .ok (.aload_n 0, 1) := by decide +kernel
theorem dX7_init_14 : decode cX7_init 14 = .ok (.sipush 144, 3) := by decide +kernel
theorem dX7_init_17 : decode cX7_init 17 = .ok (.newarray .int, 2) := by decide +kernel
theorem dX7_init_19 : decode cX7_init 19 = .ok (.putfield 15, 3) := by decide +kernel
theorem dX7_init_22 : decode cX7_init 22 = .ok (.aload_n 0, 1) := by decide +kernel
theorem dX7_init_23 : decode cX7_init 23 = .ok (.sipush 432, 3) := by decide +kernel
theorem dX7_init_26 : decode cX7_init 26 = .ok (.newarray .int, 2) := by decide +kernel
theorem dX7_init_28 : decode cX7_init 28 = .ok (.putfield 18, 3) := by decide +kernel
theorem dX7_init_31 : decode cX7_init 31 = .ok (.return_, 1) := by decide +kernel
theorem dX7_resize_0 : decode cX7_resize 0 = .ok (.aload_n 0, 1) := by decide +kernel
theorem dX7_resize_1 : decode cX7_resize 1 = .ok (.iload_n 1, 1) := by decide +kernel
theorem dX7_resize_2 : decode cX7_resize 2 = .ok (.putfield 21, 3) := by decide +kernel
theorem dX7_resize_5 : decode cX7_resize 5 = .ok (.aload_n 0, 1) := by decide +kernel
theorem dX7_resize_6 : decode cX7_resize 6 = .ok (.iconst 4, 1) := by decide +kernel
theorem dX7_resize_7 : decode cX7_resize 7 = .ok (.iload_n 1, 1) := by decide +kernel
theorem dX7_resize_8 : decode cX7_resize 8 = .ok (.imul, 1) := by decide +kernel
theorem dX7_resize_9 : decode cX7_resize 9 = .ok (.iload_n 1, 1) := by decide +kernel
theorem dX7_resize_10 : decode cX7_resize 10 = .ok (.imul, 1) := by decide +kernel
theorem dX7_resize_11 : decode cX7_resize 11 = .ok (.putfield 25, 3) := by decide +kernel
theorem dX7_resize_14 : decode cX7_resize 14 = .ok (.iconst 0, 1) := by decide +kernel
theorem dX7_resize_15 : decode cX7_resize 15 = .ok (.istore_n 2, 1) := by decide +kernel
theorem dX7_resize_16 : decode cX7_resize 16 = .ok (.iload_n 2, 1) := by decide +kernel
theorem dX7_resize_17 : decode cX7_resize 17 = .ok (.iload_n 1, 1) := by decide +kernel
theorem dX7_resize_18 : decode cX7_resize 18 = .ok (.if_icmp .ge 45, 3) := by decide +kernel
theorem dX7_resize_21 : decode cX7_resize 21 = .ok (.iconst 0, 1) := by decide +kernel
theorem dX7_resize_22 : decode cX7_resize 22 = .ok (.istore_n 3, 1) := by decide +kernel
theorem dX7_resize_23 : decode cX7_resize 23 = .ok (.iload_n 3, 1) := by decide +kernel
theorem dX7_resize_24 : decode cX7_resize 24 = .ok (.iload_n 1, 1) := by decide +kernel
theorem dX7_resize_25 : decode cX7_resize 25 = .ok (.if_icmp .ge 32, 3) := by decide +kernel
theorem dX7_resize_28 : decode cX7_resize 28 = .ok (.iconst 0, 1) := by decide +kernel
theorem dX7_resize_29 : decode cX7_resize 29 = .ok (.istore 4, 2) := by decide +kernel
theorem dX7_resize_31 : decode cX7_resize 31 = .ok (.iload 4, 2) := by decide +kernel
theorem dX7_resize_33 : decode cX7_resize 33 = .ok (.iconst 4, 1) := by decide +kernel
theorem dX7_resize_34 : decode cX7_resize 34 = .ok (.if_icmp .ge 17, 3) := by decide +kernel
theorem dX7_resize_37 : decode cX7_resize 37 = .ok (.aload_n 0, 1) := by decide +kernel
theorem dX7_resize_38 : decode cX7_resize 38 = .ok (.iload_n 3, 1) := by decide +kernel
theorem dX7_resize_39 : decode cX7_resize 39 = .ok (.iload_n 2, 1) := by decide +kernel
theorem dX7_resize_40 : decode cX7_resize 40 = .ok (.iload 4, 2) := by decide +kernel
theorem dX7_resize_42 : decode cX7_resize 42 = .ok (.invokevirtual 28, 3) := by decide +kernel
theorem dX7_resize_45 : decode cX7_resize 45 = .ok (.iinc 4 1, 3) := by decide +kernel
theorem dX7_resize_48 : decode cX7_resize 48 = .ok (.goto (-17), 3) := by decide +kernel
theorem dX7_resize_51 : decode cX7_resize 51 = .ok (.iinc 3 1, 3) := by decide +kernel
theorem dX7_resize_54 : decode cX7_resize 54 = .ok (.goto (-31), 3) := by decide +kernel
theorem dX7_resize_57 : decode cX7_resize 57 = .ok (.iinc 2 1, 3) := by decide +kernel
theorem dX7_resize_60 : decode cX7_resize 60 = .ok (.goto (-44), 3) := by decide +kernel
theorem dX7_resize_63 : decode cX7_resize 63 = .ok (.return_, 1) := by decide +kernel
theorem dX7_place_0 : decode cX7_place 0 = .ok (.aload_n 0, 1) := by decide +kernel
theorem dX7_place_1 : decode cX7_place 1 = .ok (.iload_n 1, 1) := by decide +kernel
theorem dX7_place_2 : decode cX7_place 2 = .ok (.iload_n 2, 1) := by decide +kernel
theorem dX7_place_3 : decode cX7_place 3 = .ok (.iload_n 3, 1) := by decide +kernel
theorem dX7_place_4 : decode cX7_place 4 = .ok (.invokevirtual 32, 3) := by decide +kernel
theorem dX7_place_7 : decode cX7_place 7 = .ok (.istore 4, 2) := by decide +kernel
theorem dX7_place_9 : decode cX7_place 9 = .ok (.aload_n 0, 1) := by decide +kernel
theorem dX7_place_10 : decode cX7_place 10 = .ok (.getfield 9, 3) := by decide +kernel
theorem dX7_place_13 : decode cX7_place 13 = .ok (.iload 4, 2) := by decide +kernel
theorem dX7_place_15 : decode cX7_place 15 = .ok (.iload_n 1, 1) := by decide +kernel
theorem dX7_place_16 : decode cX7_place 16 = .ok (.invokestatic 36, 3) := by decide +kernel
theorem dX7_place_19 : decode cX7_place 19 = .ok (.aload_n 0, 1) := by decide +kernel
theorem dX7_place_20 : decode cX7_place 20 = .ok (.getfield 15, 3) := by decide +kernel
theorem dX7_place_23 : decode cX7_place 23 = .ok (.iload 4, 2) := by decide +kernel
theorem dX7_place_25 : decode cX7_place 25 = .ok (.iload_n 2, 1) := by decide +kernel
theorem dX7_place_26 : decode cX7_place 26 = .ok (.invokestatic 36, 3) := by decide +kernel
theorem dX7_place_29 : decode cX7_place 29 = .ok (.aload_n 0, 1) := by decide +kernel
theorem dX7_place_30 : decode cX7_place 30 = .ok (.getfield 18, 3) := by decide +kernel
theorem dX7_place_33 : decode cX7_place 33 = .ok (.iconst 3, 1) := by decide +kernel
theorem dX7_place_34 : decode cX7_place 34 = .ok (.iload 4, 2) := by decide +kernel
theorem dX7_place_36 : decode cX7_place 36 = .ok (.imul, 1) := by decide +kernel
theorem dX7_place_37 : decode cX7_place 37 = .ok (.aload_n 0, 1) := by decide +kernel
theorem dX7_place_38 : decode cX7_place 38 = .ok (.iload_n 1, 1) := by decide +kernel
theorem dX7_place_39 : decode cX7_place 39 = .ok (.iload_n 2, 1) := by decide +kernel
theorem dX7_place_40 : decode cX7_place 40 = .ok (.iload_n 3, 1) := by decide +kernel
theorem dX7_place_41 : decode cX7_place 41 = .ok (.invokevirtual 42, 3) := by decide +kernel
theorem dX7_place_44 : decode cX7_place 44 = .ok (.invokestatic 36, 3) := by decide +kernel
theorem dX7_place_47 : decode cX7_place 47 = .ok (.aload_n 0, 1) := by decide +kernel
theorem dX7_place_48 : decode cX7_place 48 = .ok (.getfield 18, 3) := by decide +kernel
theorem dX7_place_51 : decode cX7_place 51 = .ok (.iconst 3, 1) := by decide +kernel
theorem dX7_place_52 : decode cX7_place 52 = .ok (.iload 4, 2) := by decide +kernel
theorem dX7_place_54 : decode cX7_place 54 = .ok (.imul, 1) := by decide +kernel
theorem dX7_place_55 : decode cX7_place 55 = .ok (.iconst 1, 1) := by decide +kernel
theorem dX7_place_56 : decode cX7_place 56 = .ok (.iadd, 1) := by decide +kernel
theorem dX7_place_57 : decode cX7_place 57 = .ok (.aload_n 0, 1) := by decide +kernel
theorem dX7_place_58 : decode cX7_place 58 = .ok (.iload_n 1, 1) := by decide +kernel
theorem dX7_place_59 : decode cX7_place 59 = .ok (.iload_n 2, 1) := by decide +kernel
theorem dX7_place_60 : decode cX7_place 60 = .ok (.iload_n 3, 1) := by decide +kernel
theorem dX7_place_61 : decode cX7_place 61 = .ok (.iconst 1, 1) := by decide +kernel
theorem dX7_place_62 : decode cX7_place 62 = .ok (.iadd, 1) := by decide +kernel
theorem dX7_place_63 : decode cX7_place 63 = .ok (.iconst 3, 1) := by decide +kernel
theorem dX7_place_64 : decode cX7_place 64 = .ok (.iand, 1) := by decide +kernel
theorem dX7_place_65 : decode cX7_place 65 = .ok (.invokevirtual 32, 3) := by decide +kernel
theorem dX7_place_68 : decode cX7_place 68 = .ok (.invokestatic 36, 3) := by decide +kernel
theorem dX7_place_71 : decode cX7_place 71 = .ok (.aload_n 0, 1) := by decide +kernel
theorem dX7_place_72 : decode cX7_place 72 = .ok (.getfield 18, 3) := by decide +kernel
theorem dX7_place_75 : decode cX7_place 75 = .ok (.iconst 3, 1) := by decide +kernel
theorem dX7_place_76 : decode cX7_place 76 = .ok (.iload 4, 2) := by decide +kernel
theorem dX7_place_78 : decode cX7_place 78 = .ok (.imul, 1) := by decide +kernel
theorem dX7_place_79 : decode cX7_place 79 = .ok (.iconst 2, 1) := by decide +kernel
theorem dX7_place_80 : decode cX7_place 80 = .ok (.iadd, 1) := by decide +kernel
theorem dX7_place_81 : decode cX7_place 81 = .ok (.aload_n 0, 1) := by decide +kernel
theorem dX7_place_82 : decode cX7_place 82 = .ok (.iload_n 1, 1) := by decide +kernel
theorem dX7_place_83 : decode cX7_place 83 = .ok (.iload_n 2, 1) := by decide +kernel
theorem dX7_place_84 : decode cX7_place 84 = .ok (.iload_n 3, 1) := by decide +kernel
theorem dX7_place_85 : decode cX7_place 85 = .ok (.iconst 3, 1) := by decide +kernel
theorem dX7_place_86 : decode cX7_place 86 = .ok (.iadd, 1) := by decide +kernel
theorem dX7_place_87 : decode cX7_place 87 = .ok (.iconst 3, 1) := by decide +kernel
theorem dX7_place_88 : decode cX7_place 88 = .ok (.iand, 1) := by decide +kernel
theorem dX7_place_89 : decode cX7_place 89 = .ok (.invokevirtual 32, 3) := by decide +kernel
theorem dX7_place_92 : decode cX7_place 92 = .ok (.invokestatic 36, 3) := by decide +kernel
theorem dX7_place_95 : decode cX7_place 95 = .ok (.return_, 1) := by decide +kernel
theorem dX7_across_0 : decode cX7_across 0 = .ok (.iload_n 1, 1) := by decide +kernel
theorem dX7_across_1 : decode cX7_across 1 = .ok (.iload_n 3, 1) := by decide +kernel
theorem dX7_across_2 : decode cX7_across 2 = .ok (.iconst 1, 1) := by decide +kernel
theorem dX7_across_3 : decode cX7_across 3 = .ok (.if_icmp .ne 7, 3) := by decide +kernel
theorem dX7_across_6 : decode cX7_across 6 = .ok (.iconst 1, 1) := by decide +kernel
theorem dX7_across_7 : decode cX7_across 7 = .ok (.goto 13, 3) := by decide +kernel
theorem dX7_across_10 : decode cX7_across 10 = .ok (.iload_n 3, 1) := by decide +kernel
theorem dX7_across_11 : decode cX7_across 11 = .ok (.iconst 3, 1) := by decide +kernel
theorem dX7_across_12 : decode cX7_across 12 = .ok (.if_icmp .ne 7, 3) := by decide +kernel
theorem dX7_across_15 : decode cX7_across 15 = .ok (.iconst (-1), 1) := by decide +kernel
theorem dX7_across_16 : decode cX7_across 16 = .ok (.goto 4, 3) := by decide +kernel
theorem dX7_across_19 : decode cX7_across 19 = .ok (.iconst 0, 1) := by decide +kernel
theorem dX7_across_20 : decode cX7_across 20 = .ok (.iadd, 1) := by decide +kernel
theorem dX7_across_21 : decode cX7_across 21 = .ok (.istore 4, 2) := by decide +kernel
theorem dX7_across_23 : decode cX7_across 23 = .ok (.iload_n 2, 1) := by decide +kernel
theorem dX7_across_24 : decode cX7_across 24 = .ok (.iload_n 3, 1) := by decide +kernel
theorem dX7_across_25 : decode cX7_across 25 = .ok (.iconst 2, 1) := by decide +kernel
theorem dX7_across_26 : decode cX7_across 26 = .ok (.if_icmp .ne 7, 3) := by decide +kernel
theorem dX7_across_29 : decode cX7_across 29 = .ok (.iconst 1, 1) := by decide +kernel
theorem dX7_across_30 : decode cX7_across 30 = .ok (.goto 12, 3) := by decide +kernel
theorem dX7_across_33 : decode cX7_across 33 = .ok (.iload_n 3, 1) := by decide +kernel
theorem dX7_across_34 : decode cX7_across 34 = .ok (.ifCond .ne 7, 3) := by decide +kernel
theorem dX7_across_37 : decode cX7_across 37 = .ok (.iconst (-1), 1) := by decide +kernel
theorem dX7_across_38 : decode cX7_across 38 = .ok (.goto 4, 3) := by decide +kernel
theorem dX7_across_41 : decode cX7_across 41 = .ok (.iconst 0, 1) := by decide +kernel
theorem dX7_across_42 : decode cX7_across 42 = .ok (.iadd, 1) := by decide +kernel
theorem dX7_across_43 : decode cX7_across 43 = .ok (.istore 5, 2) := by decide +kernel
theorem dX7_across_45 : decode cX7_across 45 = .ok (.aload_n 0, 1) := by decide +kernel
theorem dX7_across_46 : decode cX7_across 46 = .ok (.iload 4, 2) := by decide +kernel
theorem dX7_across_48 : decode cX7_across 48 = .ok (.iload 5, 2) := by decide +kernel
theorem dX7_across_50 : decode cX7_across 50 = .ok (.invokevirtual 45, 3) := by decide +kernel
theorem dX7_across_53 : decode cX7_across 53 = .ok (.ifCond .eq 17, 3) := by decide +kernel
theorem dX7_across_56 : decode cX7_across 56 = .ok (.aload_n 0, 1) := by decide +kernel
theorem dX7_across_57 : decode cX7_across 57 = .ok (.iload 4, 2) := by decide +kernel
theorem dX7_across_59 : decode cX7_across 59 = .ok (.iload 5, 2) := by decide +kernel
theorem dX7_across_61 : decode cX7_across 61 = .ok (.iload_n 3, 1) := by decide +kernel
theorem dX7_across_62 : decode cX7_across 62 = .ok (.iconst 2, 1) := by decide +kernel
theorem dX7_across_63 : decode cX7_across 63 = .ok (.ixor, 1) := by decide +kernel
theorem dX7_across_64 : decode cX7_across 64 = .ok (.invokevirtual 32, 3) := by decide +kernel
theorem dX7_across_67 : decode cX7_across 67 = .ok (.goto 5, 3) := by decide +kernel
theorem dX7_across_70 : decode cX7_across 70 = .ok (.ldc 49, 2) := by decide +kernel
theorem dX7_across_72 : decode cX7_across 72 = .ok (.ireturn, 1) := by decide +kernel
theorem dX7_has_0 : decode cX7_has 0 = .ok (.iload_n 1, 1) := by decide +kernel
theorem dX7_has_1 : decode cX7_has 1 = .ok (.ifCond .lt 15, 3) := by decide +kernel
theorem dX7_has_4 : decode cX7_has 4 = .ok (.iload_n 1, 1) := by decide +kernel
theorem dX7_has_5 : decode cX7_has 5 = .ok (.aload_n 0, 1) := by decide +kernel
theorem dX7_has_6 : decode cX7_has 6 = .ok (.getfield 25, 3) := by decide +kernel
theorem dX7_has_9 : decode cX7_has 9 = .ok (.if_icmp .ge 7, 3) := by decide +kernel
theorem dX7_has_12 : decode cX7_has 12 = .ok (.iconst 1, 1) := by decide +kernel
theorem dX7_has_13 : decode cX7_has 13 = .ok (.goto 4, 3) := by decide +kernel
theorem dX7_has_16 : decode cX7_has 16 = .ok (.iconst 0, 1) := by decide +kernel
theorem dX7_has_17 : decode cX7_has 17 = .ok (.ireturn, 1) := by decide +kernel
theorem dX7_hasCell_0 : decode cX7_hasCell 0 = .ok (.iload_n 1, 1) := by decide +kernel
theorem dX7_hasCell_1 : decode cX7_hasCell 1 = .ok (.ifCond .lt 27, 3) := by decide +kernel
theorem dX7_hasCell_4 : decode cX7_hasCell 4 = .ok (.iload_n 1, 1) := by decide +kernel
theorem dX7_hasCell_5 : decode cX7_hasCell 5 = .ok (.aload_n 0, 1) := by decide +kernel
theorem dX7_hasCell_6 : decode cX7_hasCell 6 = .ok (.getfield 21, 3) := by decide +kernel
theorem dX7_hasCell_9 : decode cX7_hasCell 9 = .ok (.if_icmp .ge 19, 3) := by decide +kernel
theorem dX7_hasCell_12 : decode cX7_hasCell 12 = .ok (.iload_n 2, 1) := by decide +kernel
theorem dX7_hasCell_13 : decode cX7_hasCell 13 = .ok (.ifCond .lt 15, 3) := by decide +kernel
theorem dX7_hasCell_16 : decode cX7_hasCell 16 = .ok (.iload_n 2, 1) := by decide +kernel
theorem dX7_hasCell_17 : decode cX7_hasCell 17 = .ok (.aload_n 0, 1) := by decide +kernel
theorem dX7_hasCell_18 : decode cX7_hasCell 18 = .ok (.getfield 21, 3) := by decide +kernel
theorem dX7_hasCell_21 : decode cX7_hasCell 21 = .ok (.if_icmp .ge 7, 3) := by decide +kernel
theorem dX7_hasCell_24 : decode cX7_hasCell 24 = .ok (.iconst 1, 1) := by decide +kernel
theorem dX7_hasCell_25 : decode cX7_hasCell 25 = .ok (.goto 4, 3) := by decide +kernel
theorem dX7_hasCell_28 : decode cX7_hasCell 28 = .ok (.iconst 0, 1) := by decide +kernel
theorem dX7_hasCell_29 : decode cX7_hasCell 29 = .ok (.ireturn, 1) := by decide +kernel
theorem dX7_hasPoint_0 : decode cX7_hasPoint 0 = .ok (.iload_n 3, 1) := by decide +kernel
theorem dX7_hasPoint_1 : decode cX7_hasPoint 1 = .ok (.ifCond .eq 12, 3) := by decide +kernel
theorem dX7_hasPoint_4 : decode cX7_hasPoint 4 = .ok (.aload_n 0, 1) := by decide +kernel
theorem dX7_hasPoint_5 : decode cX7_hasPoint 5 = .ok (.iload_n 1, 1) := by decide +kernel
theorem dX7_hasPoint_6 : decode cX7_hasPoint 6 = .ok (.iload_n 2, 1) := by decide +kernel
theorem dX7_hasPoint_7 : decode cX7_hasPoint 7 = .ok (.invokevirtual 45, 3) := by decide +kernel
theorem dX7_hasPoint_10 : decode cX7_hasPoint 10 = .ok (.goto 32, 3) := by decide +kernel
theorem dX7_hasPoint_13 : decode cX7_hasPoint 13 = .ok (.iload_n 1, 1) := by decide +kernel
theorem dX7_hasPoint_14 : decode cX7_hasPoint 14 = .ok (.ifCond .lt 27, 3) := by decide +kernel
theorem dX7_hasPoint_17 : decode cX7_hasPoint 17 = .ok (.iload_n 1, 1) := by decide +kernel
theorem dX7_hasPoint_18 : decode cX7_hasPoint 18 = .ok (.aload_n 0, 1) := by decide +kernel
theorem dX7_hasPoint_19 : decode cX7_hasPoint 19 = .ok (.getfield 21, 3) := by decide +kernel
theorem dX7_hasPoint_22 : decode cX7_hasPoint 22 = .ok (.if_icmp .gt 19, 3) := by decide +kernel
theorem dX7_hasPoint_25 : decode cX7_hasPoint 25 = .ok (.iload_n 2, 1) := by decide +kernel
theorem dX7_hasPoint_26 : decode cX7_hasPoint 26 = .ok (.ifCond .lt 15, 3) := by decide +kernel
theorem dX7_hasPoint_29 : decode cX7_hasPoint 29 = .ok (.iload_n 2, 1) := by decide +kernel
theorem dX7_hasPoint_30 : decode cX7_hasPoint 30 = .ok (.aload_n 0, 1) := by decide +kernel
theorem dX7_hasPoint_31 : decode cX7_hasPoint 31 = .ok (.getfield 21, 3) := by decide +kernel
theorem dX7_hasPoint_34 : decode cX7_hasPoint 34 = .ok (.if_icmp .gt 7, 3) := by decide +kernel
theorem dX7_hasPoint_37 : decode cX7_hasPoint 37 = .ok (.iconst 1, 1) := by decide +kernel
theorem dX7_hasPoint_38 : decode cX7_hasPoint 38 = .ok (.goto 4, 3) := by decide +kernel
theorem dX7_hasPoint_41 : decode cX7_hasPoint 41 = .ok (.iconst 0, 1) := by decide +kernel
theorem dX7_hasPoint_42 : decode cX7_hasPoint 42 = .ok (.ireturn, 1) := by decide +kernel
theorem dX7_leaf_0 : decode cX7_leaf 0 = .ok (.iconst 4, 1) := by decide +kernel
theorem dX7_leaf_1 : decode cX7_leaf 1 = .ok (.iload_n 2, 1) := by decide +kernel
theorem dX7_leaf_2 : decode cX7_leaf 2 = .ok (.aload_n 0, 1) := by decide +kernel
theorem dX7_leaf_3 : decode cX7_leaf 3 = .ok (.getfield 21, 3) := by decide +kernel
theorem dX7_leaf_6 : decode cX7_leaf 6 = .ok (.imul, 1) := by decide +kernel
theorem dX7_leaf_7 : decode cX7_leaf 7 = .ok (.iload_n 1, 1) := by decide +kernel
theorem dX7_leaf_8 : decode cX7_leaf 8 = .ok (.iadd, 1) := by decide +kernel
theorem dX7_leaf_9 : decode cX7_leaf 9 = .ok (.imul, 1) := by decide +kernel
theorem dX7_leaf_10 : decode cX7_leaf 10 = .ok (.iload_n 3, 1) := by decide +kernel
theorem dX7_leaf_11 : decode cX7_leaf 11 = .ok (.iadd, 1) := by decide +kernel
theorem dX7_leaf_12 : decode cX7_leaf 12 = .ok (.ireturn, 1) := by decide +kernel
theorem dX7_x_0 : decode cX7_x 0 = .ok (.aload_n 0, 1) := by decide +kernel
theorem dX7_x_1 : decode cX7_x 1 = .ok (.getfield 9, 3) := by decide +kernel
theorem dX7_x_4 : decode cX7_x 4 = .ok (.iload_n 1, 1) := by decide +kernel
theorem dX7_x_5 : decode cX7_x 5 = .ok (.invokestatic 50, 3) := by decide +kernel
theorem dX7_x_8 : decode cX7_x 8 = .ok (.ireturn, 1) := by decide +kernel
theorem dX7_y_0 : decode cX7_y 0 = .ok (.aload_n 0, 1) := by decide +kernel
theorem dX7_y_1 : decode cX7_y 1 = .ok (.getfield 15, 3) := by decide +kernel
theorem dX7_y_4 : decode cX7_y 4 = .ok (.iload_n 1, 1) := by decide +kernel
theorem dX7_y_5 : decode cX7_y 5 = .ok (.invokestatic 50, 3) := by decide +kernel
theorem dX7_y_8 : decode cX7_y 8 = .ok (.ireturn, 1) := by decide +kernel
theorem dX7_quarter_0 : decode cX7_quarter 0 = .ok (.iload_n 1, 1) := by decide +kernel
theorem dX7_quarter_1 : decode cX7_quarter 1 = .ok (.iconst 3, 1) := by decide +kernel
theorem dX7_quarter_2 : decode cX7_quarter 2 = .ok (.iand, 1) := by decide +kernel
theorem dX7_quarter_3 : decode cX7_quarter 3 = .ok (.ireturn, 1) := by decide +kernel
theorem dX7_distance_0 : decode cX7_distance 0 = .ok (.aload_n 0, 1) := by decide +kernel
theorem dX7_distance_1 : decode cX7_distance 1 = .ok (.iload_n 1, 1) := by decide +kernel
theorem dX7_distance_2 : decode cX7_distance 2 = .ok (.invokevirtual 54, 3) := by decide +kernel
theorem dX7_distance_5 : decode cX7_distance 5 = .ok (.aload_n 0, 1) := by decide +kernel
theorem dX7_distance_6 : decode cX7_distance 6 = .ok (.iload_n 2, 1) := by decide +kernel
theorem dX7_distance_7 : decode cX7_distance 7 = .ok (.invokevirtual 54, 3) := by decide +kernel
theorem dX7_distance_10 : decode cX7_distance 10 = .ok (.isub, 1) := by decide +kernel
theorem dX7_distance_11 : decode cX7_distance 11 = .ok (.invokestatic 58, 3) := by decide +kernel
theorem dX7_distance_14 : decode cX7_distance 14 = .ok (.aload_n 0, 1) := by decide +kernel
theorem dX7_distance_15 : decode cX7_distance 15 = .ok (.iload_n 1, 1) := by decide +kernel
theorem dX7_distance_16 : decode cX7_distance 16 = .ok (.invokevirtual 63, 3) := by decide +kernel
theorem dX7_distance_19 : decode cX7_distance 19 = .ok (.aload_n 0, 1) := by decide +kernel
theorem dX7_distance_20 : decode cX7_distance 20 = .ok (.iload_n 2, 1) := by decide +kernel
theorem dX7_distance_21 : decode cX7_distance 21 = .ok (.invokevirtual 63, 3) := by decide +kernel
theorem dX7_distance_24 : decode cX7_distance 24 = .ok (.isub, 1) := by decide +kernel
theorem dX7_distance_25 : decode cX7_distance 25 = .ok (.invokestatic 58, 3) := by decide +kernel
theorem dX7_distance_28 : decode cX7_distance 28 = .ok (.invokestatic 66, 3) := by decide +kernel
theorem dX7_distance_31 : decode cX7_distance 31 = .ok (.ireturn, 1) := by decide +kernel
theorem dX7_beside_0 : decode cX7_beside 0 = .ok (.aload_n 0, 1) := by decide +kernel
theorem dX7_beside_1 : decode cX7_beside 1 = .ok (.getfield 18, 3) := by decide +kernel
theorem dX7_beside_4 : decode cX7_beside 4 = .ok (.iconst 3, 1) := by decide +kernel
theorem dX7_beside_5 : decode cX7_beside 5 = .ok (.iload_n 1, 1) := by decide +kernel
theorem dX7_beside_6 : decode cX7_beside 6 = .ok (.imul, 1) := by decide +kernel
theorem dX7_beside_7 : decode cX7_beside 7 = .ok (.iload_n 2, 1) := by decide +kernel
theorem dX7_beside_8 : decode cX7_beside 8 = .ok (.iadd, 1) := by decide +kernel
theorem dX7_beside_9 : decode cX7_beside 9 = .ok (.invokestatic 50, 3) := by decide +kernel
theorem dX7_beside_12 : decode cX7_beside 12 = .ok (.ireturn, 1) := by decide +kernel
theorem dX8_init_0 : decode cX8_init 0 = .ok (.aload_n 0, 1) := by decide +kernel
theorem dX8_init_1 : decode cX8_init 1 = .ok (.invokespecial 3, 3) := by decide +kernel
theorem dX8_init_4 : decode cX8_init 4 = .ok (.aload_n 0, 1) := by decide +kernel
theorem dX8_init_5 : decode cX8_init 5 = .ok (.sipush 144, 3) := by decide +kernel
theorem dX8_init_8 : decode cX8_init 8 = .ok (.newarray .int, 2) := by decide +kernel
theorem dX8_init_10 : decode cX8_init 10 = .ok (.putfield 9, 3) := by decide +kernel
theorem dX8_init_13 : decode cX8_init 13 = .ok (.aload_n 0, 1) := by decide +kernel
theorem dX8_init_14 : decode cX8_init 14 = .ok (.sipush 144, 3) := by decide +kernel
theorem dX8_init_17 : decode cX8_init 17 = .ok (.newarray .int, 2) := by decide +kernel
theorem dX8_init_19 : decode cX8_init 19 = .ok (.putfield 15, 3) := by decide +kernel
theorem dX8_init_22 : decode cX8_init 22 = .ok (.aload_n 0, 1) := by decide +kernel
theorem dX8_init_23 : decode cX8_init 23 = .ok (.sipush 144, 3) := by decide +kernel
theorem dX8_init_26 : decode cX8_init 26 = .ok (.newarray .int, 2) := by decide +kernel
theorem dX8_init_28 : decode cX8_init 28 = .ok (.putfield 18, 3) := by decide +kernel
theorem dX8_init_31 : decode cX8_init 31 = .ok (.aload_n 0, 1) := by decide +kernel
theorem dX8_init_32 : decode cX8_init 32 = .ok (.aload_n 1, 1) := by decide +kernel
theorem dX8_init_33 : decode cX8_init 33 = .ok (.putfield 21, 3) := by decide +kernel
theorem dX8_init_36 : decode cX8_init 36 = .ok (.return_, 1) := by decide +kernel
theorem dX8_mend_0 : decode cX8_mend 0 = .ok (.aload_n 0, 1) := by decide +kernel
theorem dX8_mend_1 : decode cX8_mend 1 = .ok (.iconst 0, 1) := by decide +kernel
theorem dX8_mend_2 : decode cX8_mend 2 = .ok (.putfield 25, 3) := by decide +kernel
theorem dX8_mend_5 : decode cX8_mend 5 = .ok (.aload_n 0, 1) := by decide +kernel
theorem dX8_mend_6 : decode cX8_mend 6 = .ok (.iconst 0, 1) := by decide +kernel
theorem dX8_mend_7 : decode cX8_mend 7 = .ok (.putfield 29, 3) := by decide +kernel
theorem dX8_mend_10 : decode cX8_mend 10 = .ok (.aload_n 0, 1) := by decide +kernel
theorem dX8_mend_11 : decode cX8_mend 11 = .ok (.getfield 9, 3) := by decide +kernel
theorem dX8_mend_14 : decode cX8_mend 14 = .ok (.iconst 0, 1) := by decide +kernel
theorem dX8_mend_15 : decode cX8_mend 15 = .ok (.invokestatic 33, 3) := by decide +kernel
theorem dX8_mend_18 : decode cX8_mend 18 = .ok (.aload_n 0, 1) := by decide +kernel
theorem dX8_mend_19 : decode cX8_mend 19 = .ok (.invokevirtual 39, 3) := by decide +kernel
theorem dX8_mend_22 : decode cX8_mend 22 = .ok (.return_, 1) := by decide +kernel
theorem dX8_drop_0 : decode cX8_drop 0 = .ok (.aload_n 0, 1) := by decide +kernel
theorem dX8_drop_1 : decode cX8_drop 1 = .ok (.iconst 1, 1) := by decide +kernel
theorem dX8_drop_2 : decode cX8_drop 2 = .ok (.putfield 25, 3) := by decide +kernel
theorem dX8_drop_5 : decode cX8_drop 5 = .ok (.aload_n 0, 1) := by decide +kernel
theorem dX8_drop_6 : decode cX8_drop 6 = .ok (.iconst 0, 1) := by decide +kernel
theorem dX8_drop_7 : decode cX8_drop 7 = .ok (.putfield 29, 3) := by decide +kernel
theorem dX8_drop_10 : decode cX8_drop 10 = .ok (.iconst 0, 1) := by decide +kernel
theorem dX8_drop_11 : decode cX8_drop 11 = .ok (.istore 5, 2) := by decide +kernel
theorem dX8_drop_13 : decode cX8_drop 13 = .ok (.iload 5, 2) := by decide +kernel
theorem dX8_drop_15 : decode cX8_drop 15 = .ok (.aload_n 0, 1) := by decide +kernel
theorem dX8_drop_16 : decode cX8_drop 16 = .ok (.getfield 21, 3) := by decide +kernel
theorem dX8_drop_19 : decode cX8_drop 19 = .ok (.getfield 42, 3) := by decide +kernel
theorem dX8_drop_22 : decode cX8_drop 22 = .ok (.if_icmp .ge 46, 3) := by decide +kernel
theorem dX8_drop_25 : decode cX8_drop 25 = .ok (.aload_n 1, 1) := by decide +kernel
theorem dX8_drop_26 : decode cX8_drop 26 = .ok (.iload 5, 2) := by decide +kernel
theorem dX8_drop_28 : decode cX8_drop 28 = .ok (.iload_n 2, 1) := by decide +kernel
theorem dX8_drop_29 : decode cX8_drop 29 = .ok (.iload_n 3, 1) := by decide +kernel
theorem dX8_drop_30 : decode cX8_drop 30 = .ok (.iload 4, 2) := by decide +kernel
theorem dX8_drop_32 : decode cX8_drop 32 = .ok (.invokevirtual 47, 3) := by decide +kernel
theorem dX8_drop_35 : decode cX8_drop 35 = .ok (.invokestatic 53, 3) := by decide +kernel
theorem dX8_drop_38 : decode cX8_drop 38 = .ok (.istore 6, 2) := by decide +kernel
theorem dX8_drop_40 : decode cX8_drop 40 = .ok (.aload_n 0, 1) := by decide +kernel
theorem dX8_drop_41 : decode cX8_drop 41 = .ok (.getfield 9, 3) := by decide +kernel
theorem dX8_drop_44 : decode cX8_drop 44 = .ok (.iload 5, 2) := by decide +kernel
theorem dX8_drop_46 : decode cX8_drop 46 = .ok (.iload 6, 2) := by decide +kernel
theorem dX8_drop_48 : decode cX8_drop 48 = .ok (.invokestatic 57, 3) := by decide +kernel
theorem dX8_drop_51 : decode cX8_drop 51 = .ok (.aload_n 0, 1) := by decide +kernel
theorem dX8_drop_52 : decode cX8_drop 52 = .ok (.dup, 1) := by decide +kernel
theorem dX8_drop_53 : decode cX8_drop 53 = .ok (.getfield 29, 3) := by decide +kernel
theorem dX8_drop_56 : decode cX8_drop 56 = .ok (.iload 6, 2) := by decide +kernel
theorem dX8_drop_58 : decode cX8_drop 58 = .ok (.iadd, 1) := by decide +kernel
theorem dX8_drop_59 : decode cX8_drop 59 = .ok (.putfield 29, 3) := by decide +kernel
theorem dX8_drop_62 : decode cX8_drop 62 = .ok (.iinc 5 1, 3) := by decide +kernel
theorem dX8_drop_65 : decode cX8_drop 65 = .ok (.goto (-52), 3) := by decide +kernel
theorem dX8_drop_68 : decode cX8_drop 68 = .ok (.aload_n 0, 1) := by decide +kernel
theorem dX8_drop_69 : decode cX8_drop 69 = .ok (.invokevirtual 39, 3) := by decide +kernel
theorem dX8_drop_72 : decode cX8_drop 72 = .ok (.return_, 1) := by decide +kernel
theorem dX8_isDown_0 : decode cX8_isDown 0 = .ok (.aload_n 0, 1) := by decide +kernel
theorem dX8_isDown_1 : decode cX8_isDown 1 = .ok (.getfield 9, 3) := by decide +kernel
theorem dX8_isDown_4 : decode cX8_isDown 4 = .ok (.iload_n 1, 1) := by decide +kernel
theorem dX8_isDown_5 : decode cX8_isDown 5 = .ok (.invokestatic 61, 3) := by decide +kernel
theorem dX8_isDown_8 : decode cX8_isDown 8 = .ok (.iconst 1, 1) := by decide +kernel
theorem dX8_isDown_9 : decode cX8_isDown 9 = .ok (.if_icmp .ne 7, 3) := by decide +kernel
theorem dX8_isDown_12 : decode cX8_isDown 12 = .ok (.iconst 1, 1) := by decide +kernel
theorem dX8_isDown_13 : decode cX8_isDown 13 = .ok (.goto 4, 3) := by decide +kernel
theorem dX8_isDown_16 : decode cX8_isDown 16 = .ok (.iconst 0, 1) := by decide +kernel
theorem dX8_isDown_17 : decode cX8_isDown 17 = .ok (.ireturn, 1) := by decide +kernel
theorem dX8_leastOf_0 : decode cX8_leastOf 0 = .ok (.aload_n 0, 1) := by decide +kernel
theorem dX8_leastOf_1 : decode cX8_leastOf 1 = .ok (.getfield 15, 3) := by decide +kernel
theorem dX8_leastOf_4 : decode cX8_leastOf 4 = .ok (.iload_n 1, 1) := by decide +kernel
theorem dX8_leastOf_5 : decode cX8_leastOf 5 = .ok (.invokestatic 61, 3) := by decide +kernel
theorem dX8_leastOf_8 : decode cX8_leastOf 8 = .ok (.ireturn, 1) := by decide +kernel
theorem dX8_part_0 : decode cX8_part 0 = .ok (.aload_n 0, 1) := by decide +kernel
theorem dX8_part_1 : decode cX8_part 1 = .ok (.getfield 15, 3) := by decide +kernel
theorem dX8_part_4 : decode cX8_part 4 = .ok (.ldc 65, 2) := by decide +kernel
theorem dX8_part_6 : decode cX8_part 6 = .ok (.invokestatic 33, 3) := by decide +kernel
theorem dX8_part_9 : decode cX8_part 9 = .ok (.iconst 0, 1) := by decide +kernel
theorem dX8_part_10 : decode cX8_part 10 = .ok (.istore_n 1, 1) := by decide +kernel
theorem dX8_part_11 : decode cX8_part 11 = .ok (.iload_n 1, 1) := by decide +kernel
theorem dX8_part_12 : decode cX8_part 12 = .ok (.aload_n 0, 1) := by decide +kernel
theorem dX8_part_13 : decode cX8_part 13 = .ok (.getfield 21, 3) := by decide +kernel
theorem dX8_part_16 : decode cX8_part 16 = .ok (.getfield 42, 3) := by decide +kernel
theorem dX8_part_19 : decode cX8_part 19 = .ok (.if_icmp .ge 24, 3) := by decide +kernel
theorem dX8_part_22 : decode cX8_part 22 = .ok (.aload_n 0, 1) := by decide +kernel
theorem dX8_part_23 : decode cX8_part 23 = .ok (.iload_n 1, 1) := by decide +kernel
theorem dX8_part_24 : decode cX8_part 24 = .ok (.invokevirtual 66, 3) := by decide +kernel
theorem dX8_part_27 : decode cX8_part 27 = .ok (.ldc 65, 2) := by decide +kernel
theorem dX8_part_29 : decode cX8_part 29 = .ok (.if_icmp .ne 8, 3) := by decide +kernel
theorem dX8_part_32 : decode cX8_part 32 = .ok (.aload_n 0, 1) := by decide +kernel
theorem dX8_part_33 : decode cX8_part 33 = .ok (.iload_n 1, 1) := by decide +kernel
theorem dX8_part_34 : decode cX8_part 34 = .ok (.invokevirtual 70, 3) := by decide +kernel
theorem dX8_part_37 : decode cX8_part 37 = .ok (.iinc 1 1, 3) := by decide +kernel
theorem dX8_part_40 : decode cX8_part 40 = .ok (.goto (-29), 3) := by decide +kernel
theorem dX8_part_43 : decode cX8_part 43 = .ok (.return_, 1) := by decide +kernel
theorem dX8_gather_0 : decode cX8_gather 0 = .ok (.aload_n 0, 1) := by decide +kernel
theorem dX8_gather_1 : decode cX8_gather 1 = .ok (.getfield 15, 3) := by decide +kernel
theorem dX8_gather_4 : decode cX8_gather 4 = .ok (.iload_n 1, 1) := by decide +kernel
theorem dX8_gather_5 : decode cX8_gather 5 = .ok (.iload_n 1, 1) := by decide +kernel
theorem dX8_gather_6 : decode cX8_gather 6 = .ok (.invokestatic 57, 3) := by decide +kernel
theorem dX8_gather_9 : decode cX8_gather 9 = .ok (.aload_n 0, 1) := by decide +kernel
theorem dX8_gather_10 : decode cX8_gather 10 = .ok (.getfield 18, 3) := by decide +kernel
theorem dX8_gather_13 : decode cX8_gather 13 = .ok (.iconst 0, 1) := by decide +kernel
theorem dX8_gather_14 : decode cX8_gather 14 = .ok (.iload_n 1, 1) := by decide +kernel
theorem dX8_gather_15 : decode cX8_gather 15 = .ok (.invokestatic 57, 3) := by decide +kernel
theorem dX8_gather_18 : decode cX8_gather 18 = .ok (.iconst 1, 1) := by decide +kernel
theorem dX8_gather_19 : decode cX8_gather 19 = .ok (.istore_n 2, 1) := by decide +kernel
theorem dX8_gather_20 : decode cX8_gather 20 = .ok (.iconst 0, 1) := by decide +kernel
theorem dX8_gather_21 : decode cX8_gather 21 = .ok (.istore_n 3, 1) := by decide +kernel
theorem dX8_gather_22 : decode cX8_gather 22 = .ok (.iload_n 3, 1) := by decide +kernel
theorem dX8_gather_23 : decode cX8_gather 23 = .ok (.iload_n 2, 1) := by decide +kernel
theorem dX8_gather_24 : decode cX8_gather 24 = .ok (.if_icmp .ge 110, 3) := by decide +kernel
theorem dX8_gather_27 : decode cX8_gather 27 = .ok (.iload_n 3, 1) := by decide +kernel
theorem dX8_gather_28 : decode cX8_gather 28 = .ok (.sipush 144, 3) := by decide +kernel
theorem dX8_gather_31 : decode cX8_gather 31 = .ok (.if_icmp .ge 103, 3) := by decide +kernel
theorem dX8_gather_34 : decode cX8_gather 34 = .ok (.aload_n 0, 1) := by decide +kernel
theorem dX8_gather_35 : decode cX8_gather 35 = .ok (.getfield 18, 3) := by decide +kernel
theorem dX8_gather_38 : decode cX8_gather 38 = .ok (.iload_n 3, 1) := by decide +kernel
theorem dX8_gather_39 : decode cX8_gather 39 = .ok (.invokestatic 61, 3) := by decide +kernel
theorem dX8_gather_42 : decode cX8_gather 42 = .ok (.istore 4, 2) := by decide +kernel
theorem dX8_gather_44 : decode cX8_gather 44 = .ok (.iconst 0, 1) := by decide +kernel
theorem dX8_gather_45 : decode cX8_gather 45 = .ok (.istore 5, 2) := by decide +kernel
theorem dX8_gather_47 : decode cX8_gather 47 = .ok (.iload 5, 2) := by decide +kernel
theorem dX8_gather_49 : decode cX8_gather 49 = .ok (.iconst 3, 1) := by decide +kernel
theorem dX8_gather_50 : decode cX8_gather 50 = .ok (.if_icmp .ge 78, 3) := by decide +kernel
theorem dX8_gather_53 : decode cX8_gather 53 = .ok (.aload_n 0, 1) := by decide +kernel
theorem dX8_gather_54 : decode cX8_gather 54 = .ok (.getfield 21, 3) := by decide +kernel
theorem dX8_gather_57 : decode cX8_gather 57 = .ok (.iload 4, 2) := by decide +kernel
theorem dX8_gather_59 : decode cX8_gather 59 = .ok (.iload 5, 2) := by decide +kernel
theorem dX8_gather_61 : decode cX8_gather 61 = .ok (.invokevirtual 74, 3) := by decide +kernel
theorem dX8_gather_64 : decode cX8_gather 64 = .ok (.istore 6, 2) := by decide +kernel
theorem dX8_gather_66 : decode cX8_gather 66 = .ok (.iload 6, 2) := by decide +kernel
theorem dX8_gather_68 : decode cX8_gather 68 = .ok (.ldc 65, 2) := by decide +kernel
theorem dX8_gather_70 : decode cX8_gather 70 = .ok (.if_icmp .eq 52, 3) := by decide +kernel
theorem dX8_gather_73 : decode cX8_gather 73 = .ok (.aload_n 0, 1) := by decide +kernel
theorem dX8_gather_74 : decode cX8_gather 74 = .ok (.iload 6, 2) := by decide +kernel
theorem dX8_gather_76 : decode cX8_gather 76 = .ok (.invokevirtual 66, 3) := by decide +kernel
theorem dX8_gather_79 : decode cX8_gather 79 = .ok (.ldc 65, 2) := by decide +kernel
theorem dX8_gather_81 : decode cX8_gather 81 = .ok (.if_icmp .ne 41, 3) := by decide +kernel
theorem dX8_gather_84 : decode cX8_gather 84 = .ok (.aload_n 0, 1) := by decide +kernel
theorem dX8_gather_85 : decode cX8_gather 85 = .ok (.iload 6, 2) := by decide +kernel
theorem dX8_gather_87 : decode cX8_gather 87 = .ok (.invokevirtual 78, 3) := by decide +kernel
theorem dX8_gather_90 : decode cX8_gather 90 = .ok (.aload_n 0, 1) := by decide +kernel
theorem dX8_gather_91 : decode cX8_gather 91 = .ok (.iload 4, 2) := by decide +kernel
theorem dX8_gather_93 : decode cX8_gather 93 = .ok (.invokevirtual 78, 3) := by decide +kernel
theorem dX8_gather_96 : decode cX8_gather 96 = .ok (.if_icmp .ne 26, 3) := by decide +kernel
theorem dX8_gather_99 : decode cX8_gather 99 = .ok (.aload_n 0, 1) := by decide +kernel
theorem dX8_gather_100 : decode cX8_gather 100 = .ok (.getfield 15, 3) := by decide +kernel
theorem dX8_gather_103 : decode cX8_gather 103 = .ok (.iload 6, 2) := by decide +kernel
theorem dX8_gather_105 : decode cX8_gather 105 = .ok (.iload_n 1, 1) := by decide +kernel
theorem dX8_gather_106 : decode cX8_gather 106 = .ok (.invokestatic 57, 3) := by decide +kernel
theorem dX8_gather_109 : decode cX8_gather 109 = .ok (.aload_n 0, 1) := by decide +kernel
theorem dX8_gather_110 : decode cX8_gather 110 = .ok (.getfield 18, 3) := by decide +kernel
theorem dX8_gather_113 : decode cX8_gather 113 = .ok (.iload_n 2, 1) := by decide +kernel
theorem dX8_gather_114 : decode cX8_gather 114 = .ok (.iload 6, 2) := by decide +kernel
theorem dX8_gather_116 : decode cX8_gather 116 = .ok (.invokestatic 57, 3) := by decide +kernel
theorem dX8_gather_119 : decode cX8_gather 119 = .ok (.iinc 2 1, 3) := by decide +kernel
theorem dX8_gather_122 : decode cX8_gather 122 = .ok (.iinc 5 1, 3) := by decide +kernel
theorem dX8_gather_125 : decode cX8_gather 125 = .ok (.goto (-78), 3) := by decide +kernel
theorem dX8_gather_128 : decode cX8_gather 128 = .ok (.iinc 3 1, 3) := by decide +kernel
theorem dX8_gather_131 : decode cX8_gather 131 = .ok (.goto (-109), 3) := by decide +kernel
theorem dX8_gather_134 : decode cX8_gather 134 = .ok (.return_, 1) := by decide +kernel
theorem dX8_total_0 : decode cX8_total 0 = .ok (.iconst 0, 1) := by decide +kernel
theorem dX8_total_1 : decode cX8_total 1 = .ok (.istore_n 2, 1) := by decide +kernel
theorem dX8_total_2 : decode cX8_total 2 = .ok (.iconst 0, 1) := by decide +kernel
theorem dX8_total_3 : decode cX8_total 3 = .ok (.istore_n 3, 1) := by decide +kernel
theorem dX8_total_4 : decode cX8_total 4 = .ok (.iload_n 3, 1) := by decide +kernel
theorem dX8_total_5 : decode cX8_total 5 = .ok (.aload_n 0, 1) := by decide +kernel
theorem dX8_total_6 : decode cX8_total 6 = .ok (.getfield 21, 3) := by decide +kernel
theorem dX8_total_9 : decode cX8_total 9 = .ok (.getfield 42, 3) := by decide +kernel
theorem dX8_total_12 : decode cX8_total 12 = .ok (.if_icmp .ge 38, 3) := by decide +kernel
theorem dX8_total_15 : decode cX8_total 15 = .ok (.iload_n 2, 1) := by decide +kernel
theorem dX8_total_16 : decode cX8_total 16 = .ok (.aload_n 0, 1) := by decide +kernel
theorem dX8_total_17 : decode cX8_total 17 = .ok (.iload_n 3, 1) := by decide +kernel
theorem dX8_total_18 : decode cX8_total 18 = .ok (.invokevirtual 66, 3) := by decide +kernel
theorem dX8_total_21 : decode cX8_total 21 = .ok (.iload_n 3, 1) := by decide +kernel
theorem dX8_total_22 : decode cX8_total 22 = .ok (.if_icmp .ne 16, 3) := by decide +kernel
theorem dX8_total_25 : decode cX8_total 25 = .ok (.aload_n 0, 1) := by decide +kernel
theorem dX8_total_26 : decode cX8_total 26 = .ok (.iload_n 3, 1) := by decide +kernel
theorem dX8_total_27 : decode cX8_total 27 = .ok (.invokevirtual 78, 3) := by decide +kernel
theorem dX8_total_30 : decode cX8_total 30 = .ok (.iload_n 1, 1) := by decide +kernel
theorem dX8_total_31 : decode cX8_total 31 = .ok (.if_icmp .ne 7, 3) := by decide +kernel
theorem dX8_total_34 : decode cX8_total 34 = .ok (.iconst 1, 1) := by decide +kernel
theorem dX8_total_35 : decode cX8_total 35 = .ok (.goto 4, 3) := by decide +kernel
theorem dX8_total_38 : decode cX8_total 38 = .ok (.iconst 0, 1) := by decide +kernel
theorem dX8_total_39 : decode cX8_total 39 = .ok (.invokestatic 53, 3) := by decide +kernel
theorem dX8_total_42 : decode cX8_total 42 = .ok (.iadd, 1) := by decide +kernel
theorem dX8_total_43 : decode cX8_total 43 = .ok (.istore_n 2, 1) := by decide +kernel
theorem dX8_total_44 : decode cX8_total 44 = .ok (.iinc 3 1, 3) := by decide +kernel
theorem dX8_total_47 : decode cX8_total 47 = .ok (.goto (-43), 3) := by decide +kernel
theorem dX8_total_50 : decode cX8_total 50 = .ok (.iload_n 2, 1) := by decide +kernel
theorem dX8_total_51 : decode cX8_total 51 = .ok (.ireturn, 1) := by decide +kernel
theorem dX8_inner_0 : decode cX8_inner 0 = .ok (.iconst 0, 1) := by decide +kernel
theorem dX8_inner_1 : decode cX8_inner 1 = .ok (.istore_n 1, 1) := by decide +kernel
theorem dX8_inner_2 : decode cX8_inner 2 = .ok (.iconst 0, 1) := by decide +kernel
theorem dX8_inner_3 : decode cX8_inner 3 = .ok (.istore_n 2, 1) := by decide +kernel
theorem dX8_inner_4 : decode cX8_inner 4 = .ok (.iload_n 2, 1) := by decide +kernel
theorem dX8_inner_5 : decode cX8_inner 5 = .ok (.aload_n 0, 1) := by decide +kernel
theorem dX8_inner_6 : decode cX8_inner 6 = .ok (.getfield 21, 3) := by decide +kernel
theorem dX8_inner_9 : decode cX8_inner 9 = .ok (.getfield 42, 3) := by decide +kernel
theorem dX8_inner_12 : decode cX8_inner 12 = .ok (.if_icmp .ge 45, 3) := by decide +kernel
theorem dX8_inner_15 : decode cX8_inner 15 = .ok (.iload_n 1, 1) := by decide +kernel
theorem dX8_inner_16 : decode cX8_inner 16 = .ok (.aload_n 0, 1) := by decide +kernel
theorem dX8_inner_17 : decode cX8_inner 17 = .ok (.iload_n 2, 1) := by decide +kernel
theorem dX8_inner_18 : decode cX8_inner 18 = .ok (.invokevirtual 66, 3) := by decide +kernel
theorem dX8_inner_21 : decode cX8_inner 21 = .ok (.iload_n 2, 1) := by decide +kernel
theorem dX8_inner_22 : decode cX8_inner 22 = .ok (.if_icmp .ne 23, 3) := by decide +kernel
theorem dX8_inner_25 : decode cX8_inner 25 = .ok (.aload_n 0, 1) := by decide +kernel
theorem dX8_inner_26 : decode cX8_inner 26 = .ok (.iload_n 2, 1) := by decide +kernel
theorem dX8_inner_27 : decode cX8_inner 27 = .ok (.invokevirtual 78, 3) := by decide +kernel
theorem dX8_inner_30 : decode cX8_inner 30 = .ok (.ifCond .eq 15, 3) := by decide +kernel
theorem dX8_inner_33 : decode cX8_inner 33 = .ok (.aload_n 0, 1) := by decide +kernel
theorem dX8_inner_34 : decode cX8_inner 34 = .ok (.iload_n 2, 1) := by decide +kernel
theorem dX8_inner_35 : decode cX8_inner 35 = .ok (.invokevirtual 82, 3) := by decide +kernel
theorem dX8_inner_38 : decode cX8_inner 38 = .ok (.ifCond .ne 7, 3) := by decide +kernel
theorem dX8_inner_41 : decode cX8_inner 41 = .ok (.iconst 1, 1) := by decide +kernel
theorem dX8_inner_42 : decode cX8_inner 42 = .ok (.goto 4, 3) := by decide +kernel
theorem dX8_inner_45 : decode cX8_inner 45 = .ok (.iconst 0, 1) := by decide +kernel
theorem dX8_inner_46 : decode cX8_inner 46 = .ok (.invokestatic 53, 3) := by decide +kernel
theorem dX8_inner_49 : decode cX8_inner 49 = .ok (.iadd, 1) := by decide +kernel
theorem dX8_inner_50 : decode cX8_inner 50 = .ok (.istore_n 1, 1) := by decide +kernel
theorem dX8_inner_51 : decode cX8_inner 51 = .ok (.iinc 2 1, 3) := by decide +kernel
theorem dX8_inner_54 : decode cX8_inner 54 = .ok (.goto (-50), 3) := by decide +kernel
theorem dX8_inner_57 : decode cX8_inner 57 = .ok (.iload_n 1, 1) := by decide +kernel
theorem dX8_inner_58 : decode cX8_inner 58 = .ok (.ireturn, 1) := by decide +kernel
theorem dX8_reachesOut_0 : decode cX8_reachesOut 0 = .ok (.iconst 0, 1) := by decide +kernel
theorem dX8_reachesOut_1 : decode cX8_reachesOut 1 = .ok (.istore_n 2, 1) := by decide +kernel
theorem dX8_reachesOut_2 : decode cX8_reachesOut 2 = .ok (.iload_n 2, 1) := by decide +kernel
theorem dX8_reachesOut_3 : decode cX8_reachesOut 3 = .ok (.aload_n 0, 1) := by decide +kernel
theorem dX8_reachesOut_4 : decode cX8_reachesOut 4 = .ok (.getfield 21, 3) := by decide +kernel
theorem dX8_reachesOut_7 : decode cX8_reachesOut 7 = .ok (.getfield 42, 3) := by decide +kernel
theorem dX8_reachesOut_10 : decode cX8_reachesOut 10 = .ok (.if_icmp .ge 34, 3) := by decide +kernel
theorem dX8_reachesOut_13 : decode cX8_reachesOut 13 = .ok (.aload_n 0, 1) := by decide +kernel
theorem dX8_reachesOut_14 : decode cX8_reachesOut 14 = .ok (.iload_n 2, 1) := by decide +kernel
theorem dX8_reachesOut_15 : decode cX8_reachesOut 15 = .ok (.invokevirtual 66, 3) := by decide +kernel
theorem dX8_reachesOut_18 : decode cX8_reachesOut 18 = .ok (.iload_n 1, 1) := by decide +kernel
theorem dX8_reachesOut_19 : decode cX8_reachesOut 19 = .ok (.if_icmp .ne 19, 3) := by decide +kernel
theorem dX8_reachesOut_22 : decode cX8_reachesOut 22 = .ok (.aload_n 0, 1) := by decide +kernel
theorem dX8_reachesOut_23 : decode cX8_reachesOut 23 = .ok (.getfield 21, 3) := by decide +kernel
theorem dX8_reachesOut_26 : decode cX8_reachesOut 26 = .ok (.iload_n 2, 1) := by decide +kernel
theorem dX8_reachesOut_27 : decode cX8_reachesOut 27 = .ok (.iconst 0, 1) := by decide +kernel
theorem dX8_reachesOut_28 : decode cX8_reachesOut 28 = .ok (.invokevirtual 74, 3) := by decide +kernel
theorem dX8_reachesOut_31 : decode cX8_reachesOut 31 = .ok (.ldc 65, 2) := by decide +kernel
theorem dX8_reachesOut_33 : decode cX8_reachesOut 33 = .ok (.if_icmp .ne 5, 3) := by decide +kernel
theorem dX8_reachesOut_36 : decode cX8_reachesOut 36 = .ok (.iconst 1, 1) := by decide +kernel
theorem dX8_reachesOut_37 : decode cX8_reachesOut 37 = .ok (.ireturn, 1) := by decide +kernel
theorem dX8_reachesOut_38 : decode cX8_reachesOut 38 = .ok (.iinc 2 1, 3) := by decide +kernel
theorem dX8_reachesOut_41 : decode cX8_reachesOut 41 = .ok (.goto (-39), 3) := by decide +kernel
theorem dX8_reachesOut_44 : decode cX8_reachesOut 44 = .ok (.iconst 0, 1) := by decide +kernel
theorem dX8_reachesOut_45 : decode cX8_reachesOut 45 = .ok (.ireturn, 1) := by decide +kernel
theorem dX8_border_0 : decode cX8_border 0 = .ok (.iconst 0, 1) := by decide +kernel
theorem dX8_border_1 : decode cX8_border 1 = .ok (.istore_n 2, 1) := by decide +kernel
theorem dX8_border_2 : decode cX8_border 2 = .ok (.iconst 0, 1) := by decide +kernel
theorem dX8_border_3 : decode cX8_border 3 = .ok (.istore_n 3, 1) := by decide +kernel
theorem dX8_border_4 : decode cX8_border 4 = .ok (.iload_n 3, 1) := by decide +kernel
theorem dX8_border_5 : decode cX8_border 5 = .ok (.aload_n 0, 1) := by decide +kernel
theorem dX8_border_6 : decode cX8_border 6 = .ok (.getfield 21, 3) := by decide +kernel
theorem dX8_border_9 : decode cX8_border 9 = .ok (.getfield 42, 3) := by decide +kernel
theorem dX8_border_12 : decode cX8_border 12 = .ok (.if_icmp .ge 55, 3) := by decide +kernel
theorem dX8_border_15 : decode cX8_border 15 = .ok (.aload_n 0, 1) := by decide +kernel
theorem dX8_border_16 : decode cX8_border 16 = .ok (.getfield 21, 3) := by decide +kernel
theorem dX8_border_19 : decode cX8_border 19 = .ok (.iload_n 3, 1) := by decide +kernel
theorem dX8_border_20 : decode cX8_border 20 = .ok (.iload_n 1, 1) := by decide +kernel
theorem dX8_border_21 : decode cX8_border 21 = .ok (.invokevirtual 74, 3) := by decide +kernel
theorem dX8_border_24 : decode cX8_border 24 = .ok (.istore 4, 2) := by decide +kernel
theorem dX8_border_26 : decode cX8_border 26 = .ok (.iload_n 2, 1) := by decide +kernel
theorem dX8_border_27 : decode cX8_border 27 = .ok (.iload 4, 2) := by decide +kernel
theorem dX8_border_29 : decode cX8_border 29 = .ok (.ldc 65, 2) := by decide +kernel
theorem dX8_border_31 : decode cX8_border 31 = .ok (.if_icmp .eq 24, 3) := by decide +kernel
theorem dX8_border_34 : decode cX8_border 34 = .ok (.aload_n 0, 1) := by decide +kernel
theorem dX8_border_35 : decode cX8_border 35 = .ok (.iload_n 3, 1) := by decide +kernel
theorem dX8_border_36 : decode cX8_border 36 = .ok (.invokevirtual 78, 3) := by decide +kernel
theorem dX8_border_39 : decode cX8_border 39 = .ok (.ifCond .eq 16, 3) := by decide +kernel
theorem dX8_border_42 : decode cX8_border 42 = .ok (.aload_n 0, 1) := by decide +kernel
theorem dX8_border_43 : decode cX8_border 43 = .ok (.iload 4, 2) := by decide +kernel
theorem dX8_border_45 : decode cX8_border 45 = .ok (.invokevirtual 78, 3) := by decide +kernel
theorem dX8_border_48 : decode cX8_border 48 = .ok (.ifCond .ne 7, 3) := by decide +kernel
theorem dX8_border_51 : decode cX8_border 51 = .ok (.iconst 1, 1) := by decide +kernel
theorem dX8_border_52 : decode cX8_border 52 = .ok (.goto 4, 3) := by decide +kernel
theorem dX8_border_55 : decode cX8_border 55 = .ok (.iconst 0, 1) := by decide +kernel
theorem dX8_border_56 : decode cX8_border 56 = .ok (.invokestatic 53, 3) := by decide +kernel
theorem dX8_border_59 : decode cX8_border 59 = .ok (.iadd, 1) := by decide +kernel
theorem dX8_border_60 : decode cX8_border 60 = .ok (.istore_n 2, 1) := by decide +kernel
theorem dX8_border_61 : decode cX8_border 61 = .ok (.iinc 3 1, 3) := by decide +kernel
theorem dX8_border_64 : decode cX8_border 64 = .ok (.goto (-60), 3) := by decide +kernel
theorem dX8_border_67 : decode cX8_border 67 = .ok (.iload_n 2, 1) := by decide +kernel
theorem dX8_border_68 : decode cX8_border 68 = .ok (.ireturn, 1) := by decide +kernel
theorem dX9_init_0 : decode cX9_init 0 = .ok (.aload_n 0, 1) := by decide +kernel
theorem dX9_init_1 : decode cX9_init 1 = .ok (.invokespecial 3, 3) := by decide +kernel
theorem dX9_init_4 : decode cX9_init 4 = .ok (.aload_n 0, 1) := by decide +kernel
theorem dX9_init_5 : decode cX9_init 5 = .ok (.new 9, 3) := by decide +kernel
theorem dX9_init_8 : decode cX9_init 8 = .ok (.dup, 1) := by decide +kernel
theorem dX9_init_9 : decode cX9_init 9 = .ok (.invokespecial 11, 3) := by decide +kernel
theorem dX9_init_12 : decode cX9_init 12 = .ok (.putfield 12, 3) := by decide +kernel
theorem dX9_init_15 : decode cX9_init 15 = .ok (.aload_n 0, 1) := by decide +kernel
theorem dX9_init_16 : decode cX9_init 16 = .ok (.new 16, 3) := by decide +kernel
theorem dX9_init_19 : decode cX9_init 19 = .ok (.dup, 1) := by decide +kernel
theorem dX9_init_20 : decode cX9_init 20 = .ok (.aload_n 0, 1) := by decide +kernel
theorem dX9_init_21 : decode cX9_init 21 = .ok (.getfield 12, 3) := by decide +kernel
theorem dX9_init_24 : decode cX9_init 24 = .ok (.invokespecial 18, 3) := by decide +kernel
theorem dX9_init_27 : decode cX9_init 27 = .ok (.putfield 21, 3) := by decide +kernel
theorem dX9_init_30 : decode cX9_init 30 = .ok (.aload_n 0, 1) := by decide +kernel
theorem dX9_init_31 : decode cX9_init 31 = .ok (.new 25, 3) := by decide +kernel
theorem dX9_init_34 : decode cX9_init 34 = .ok (.dup, 1) := by decide +kernel
theorem dX9_init_35 : decode cX9_init 35 = .ok (.aload_n 0, 1) := by decide +kernel
theorem dX9_init_36 : decode cX9_init 36 = .ok (.getfield 12, 3) := by decide +kernel
theorem dX9_init_39 : decode cX9_init 39 = .ok (.aload_n 0, 1) := by decide +kernel
theorem dX9_init_40 : decode cX9_init 40 = .ok (.getfield 21, 3) := by decide +kernel
theorem dX9_init_43 : decode cX9_init 43 = .ok (.invokespecial 27, 3) := by decide +kernel
theorem dX9_init_46 : decode cX9_init 46 = .ok (.putfield 30, 3) := by decide +kernel
theorem dX9_init_49 : decode cX9_init 49 = .ok (.aload_n 0, 1) := by decide +kernel
theorem dX9_init_50 : decode cX9_init 50 = .ok (.new 34, 3) := by decide +kernel
theorem dX9_init_53 : decode cX9_init 53 = .ok (.dup, 1) := by decide +kernel
theorem dX9_init_54 : decode cX9_init 54 = .ok (.aload_n 0, 1) := by decide +kernel
theorem dX9_init_55 : decode cX9_init 55 = .ok (.getfield 12, 3) := by decide +kernel
theorem dX9_init_58 : decode cX9_init 58 = .ok (.invokespecial 36, 3) := by decide +kernel
theorem dX9_init_61 : decode cX9_init 61 = .ok (.putfield 37, 3) := by decide +kernel
theorem dX9_init_64 : decode cX9_init 64 = .ok (.aload_n 0, 1) := by decide +kernel
theorem dX9_init_65 : decode cX9_init 65 = .ok (.new 41, 3) := by decide +kernel
theorem dX9_init_68 : decode cX9_init 68 = .ok (.dup, 1) := by decide +kernel
theorem dX9_init_69 : decode cX9_init 69 = .ok (.aload_n 0, 1) := by decide +kernel
theorem dX9_init_70 : decode cX9_init 70 = .ok (.getfield 12, 3) := by decide +kernel
theorem dX9_init_73 : decode cX9_init 73 = .ok (.invokespecial 43, 3) := by decide +kernel
theorem dX9_init_76 : decode cX9_init 76 = .ok (.putfield 44, 3) := by decide +kernel
theorem dX9_init_79 : decode cX9_init 79 = .ok (.aload_n 0, 1) := by decide +kernel
theorem dX9_init_80 : decode cX9_init 80 = .ok (.new 48, 3) := by decide +kernel
theorem dX9_init_83 : decode cX9_init 83 = .ok (.dup, 1) := by decide +kernel
theorem dX9_init_84 : decode cX9_init 84 = .ok (.aload_n 0, 1) := by decide +kernel
theorem dX9_init_85 : decode cX9_init 85 = .ok (.getfield 12, 3) := by decide +kernel
theorem dX9_init_88 : decode cX9_init 88 = .ok (.aload_n 0, 1) := by decide +kernel
theorem dX9_init_89 : decode cX9_init 89 = .ok (.getfield 44, 3) := by decide +kernel
theorem dX9_init_92 : decode cX9_init 92 = .ok (.invokespecial 50, 3) := by decide +kernel
theorem dX9_init_95 : decode cX9_init 95 = .ok (.putfield 53, 3) := by decide +kernel
theorem dX9_init_98 : decode cX9_init 98 = .ok (.aload_n 0, 1) := by decide +kernel
theorem dX9_init_99 : decode cX9_init 99 = .ok (.sipush 144, 3) := by decide +kernel
theorem dX9_init_102 : decode cX9_init 102 = .ok (.putfield 57, 3) := by decide +kernel
theorem dX9_init_105 : decode cX9_init 105 = .ok (.aload_n 0, 1) := by decide +kernel
theorem dX9_init_106 : decode cX9_init 106 = .ok (.iconst 4, 1) := by decide +kernel
theorem dX9_init_107 : decode cX9_init 107 = .ok (.invokevirtual 61, 3) := by decide +kernel
theorem dX9_init_110 : decode cX9_init 110 = .ok (.return_, 1) := by decide +kernel
theorem dX9_sheet_0 : decode cX9_sheet 0 = .ok (.iload_n 1, 1) := by decide +kernel
theorem dX9_sheet_1 : decode cX9_sheet 1 = .ok (.iconst 1, 1) := by decide +kernel
theorem dX9_sheet_2 : decode cX9_sheet 2 = .ok (.if_icmp .lt 9, 3) := by decide +kernel
theorem dX9_sheet_5 : decode cX9_sheet 5 = .ok (.iload_n 1, 1) := by decide +kernel
theorem dX9_sheet_6 : decode cX9_sheet 6 = .ok (.bipush 6, 2) := by decide +kernel
theorem dX9_sheet_8 : decode cX9_sheet 8 = .ok (.if_icmp .le 6, 3) := by decide +kernel
theorem dX9_sheet_11 : decode cX9_sheet 11 = .ok (.bipush (-2), 2) := by decide +kernel
theorem dX9_sheet_13 : decode cX9_sheet 13 = .ok (.ireturn, 1) := by decide +kernel
theorem dX9_sheet_14 : decode cX9_sheet 14 = .ok (.aload_n 0, 1) := by decide +kernel
theorem dX9_sheet_15 : decode cX9_sheet 15 = .ok (.getfield 12, 3) := by decide +kernel
theorem dX9_sheet_18 : decode cX9_sheet 18 = .ok (.getfield 65, 3) := by decide +kernel
theorem dX9_sheet_21 : decode cX9_sheet 21 = .ok (.istore_n 2, 1) := by decide +kernel
theorem dX9_sheet_22 : decode cX9_sheet 22 = .ok (.aload_n 0, 1) := by decide +kernel
theorem dX9_sheet_23 : decode cX9_sheet 23 = .ok (.iload_n 1, 1) := by decide +kernel
theorem dX9_sheet_24 : decode cX9_sheet 24 = .ok (.invokevirtual 61, 3) := by decide +kernel
theorem dX9_sheet_27 : decode cX9_sheet 27 = .ok (.iload_n 2, 1) := by decide +kernel
theorem dX9_sheet_28 : decode cX9_sheet 28 = .ok (.ireturn, 1) := by decide +kernel
theorem dX9_fold_0 : decode cX9_fold 0 = .ok (.iload_n 1, 1) := by decide +kernel
theorem dX9_fold_1 : decode cX9_fold 1 = .ok (.iload_n 2, 1) := by decide +kernel
theorem dX9_fold_2 : decode cX9_fold 2 = .ok (.invokestatic 68, 3) := by decide +kernel
theorem dX9_fold_5 : decode cX9_fold 5 = .ok (.ifCond .eq 10, 3) := by decide +kernel
theorem dX9_fold_8 : decode cX9_fold 8 = .ok (.iload_n 3, 1) := by decide +kernel
theorem dX9_fold_9 : decode cX9_fold 9 = .ok (.invokestatic 74, 3) := by decide +kernel
theorem dX9_fold_12 : decode cX9_fold 12 = .ok (.ifCond .ne 6, 3) := by decide +kernel
theorem dX9_fold_15 : decode cX9_fold 15 = .ok (.bipush (-2), 2) := by decide +kernel
theorem dX9_fold_17 : decode cX9_fold 17 = .ok (.ireturn, 1) := by decide +kernel
theorem dX9_fold_18 : decode cX9_fold 18 = .ok (.aload_n 0, 1) := by decide +kernel
theorem dX9_fold_19 : decode cX9_fold 19 = .ok (.getfield 37, 3) := by decide +kernel
theorem dX9_fold_22 : decode cX9_fold 22 = .ok (.getfield 78, 3) := by decide +kernel
theorem dX9_fold_25 : decode cX9_fold 25 = .ok (.ifCond .ne 15, 3) := by decide +kernel
theorem dX9_fold_28 : decode cX9_fold 28 = .ok (.aload_n 0, 1) := by decide +kernel
theorem dX9_fold_29 : decode cX9_fold 29 = .ok (.getfield 21, 3) := by decide +kernel
theorem dX9_fold_32 : decode cX9_fold 32 = .ok (.iload_n 1, 1) := by decide +kernel
theorem dX9_fold_33 : decode cX9_fold 33 = .ok (.iload_n 2, 1) := by decide +kernel
theorem dX9_fold_34 : decode cX9_fold 34 = .ok (.invokevirtual 82, 3) := by decide +kernel
theorem dX9_fold_37 : decode cX9_fold 37 = .ok (.ifCond .ne 6, 3) := by decide +kernel
theorem dX9_fold_40 : decode cX9_fold 40 = .ok (.bipush (-3), 2) := by decide +kernel
theorem dX9_fold_42 : decode cX9_fold 42 = .ok (.ireturn, 1) := by decide +kernel
theorem dX9_fold_43 : decode cX9_fold 43 = .ok (.aload_n 0, 1) := by decide +kernel
theorem dX9_fold_44 : decode cX9_fold 44 = .ok (.getfield 21, 3) := by decide +kernel
theorem dX9_fold_47 : decode cX9_fold 47 = .ok (.getfield 85, 3) := by decide +kernel
theorem dX9_fold_50 : decode cX9_fold 50 = .ok (.bipush 8, 2) := by decide +kernel
theorem dX9_fold_52 : decode cX9_fold 52 = .ok (.if_icmp .lt 6, 3) := by decide +kernel
theorem dX9_fold_55 : decode cX9_fold 55 = .ok (.bipush (-4), 2) := by decide +kernel
theorem dX9_fold_57 : decode cX9_fold 57 = .ok (.ireturn, 1) := by decide +kernel
theorem dX9_fold_58 : decode cX9_fold 58 = .ok (.aload_n 0, 1) := by decide +kernel
theorem dX9_fold_59 : decode cX9_fold 59 = .ok (.getfield 21, 3) := by decide +kernel
theorem dX9_fold_62 : decode cX9_fold 62 = .ok (.iload_n 1, 1) := by decide +kernel
theorem dX9_fold_63 : decode cX9_fold 63 = .ok (.iload_n 2, 1) := by decide +kernel
theorem dX9_fold_64 : decode cX9_fold 64 = .ok (.iload_n 3, 1) := by decide +kernel
theorem dX9_fold_65 : decode cX9_fold 65 = .ok (.iload 4, 2) := by decide +kernel
theorem dX9_fold_67 : decode cX9_fold 67 = .ok (.invokevirtual 87, 3) := by decide +kernel
theorem dX9_fold_70 : decode cX9_fold 70 = .ok (.aload_n 0, 1) := by decide +kernel
theorem dX9_fold_71 : decode cX9_fold 71 = .ok (.getfield 21, 3) := by decide +kernel
theorem dX9_fold_74 : decode cX9_fold 74 = .ok (.invokevirtual 91, 3) := by decide +kernel
theorem dX9_fold_77 : decode cX9_fold 77 = .ok (.ireturn, 1) := by decide +kernel
theorem dX9_unfold_0 : decode cX9_unfold 0 = .ok (.aload_n 0, 1) := by decide +kernel
theorem dX9_unfold_1 : decode cX9_unfold 1 = .ok (.getfield 21, 3) := by decide +kernel
theorem dX9_unfold_4 : decode cX9_unfold 4 = .ok (.getfield 85, 3) := by decide +kernel
theorem dX9_unfold_7 : decode cX9_unfold 7 = .ok (.ifCond .ne 6, 3) := by decide +kernel
theorem dX9_unfold_10 : decode cX9_unfold 10 = .ok (.bipush (-3), 2) := by decide +kernel
theorem dX9_unfold_12 : decode cX9_unfold 12 = .ok (.ireturn, 1) := by decide +kernel
theorem dX9_unfold_13 : decode cX9_unfold 13 = .ok (.aload_n 0, 1) := by decide +kernel
theorem dX9_unfold_14 : decode cX9_unfold 14 = .ok (.getfield 21, 3) := by decide +kernel
theorem dX9_unfold_17 : decode cX9_unfold 17 = .ok (.invokevirtual 95, 3) := by decide +kernel
theorem dX9_unfold_20 : decode cX9_unfold 20 = .ok (.aload_n 0, 1) := by decide +kernel
theorem dX9_unfold_21 : decode cX9_unfold 21 = .ok (.getfield 21, 3) := by decide +kernel
theorem dX9_unfold_24 : decode cX9_unfold 24 = .ok (.getfield 85, 3) := by decide +kernel
theorem dX9_unfold_27 : decode cX9_unfold 27 = .ok (.ireturn, 1) := by decide +kernel
theorem dX9_facet_0 : decode cX9_facet 0 = .ok (.aload_n 0, 1) := by decide +kernel
theorem dX9_facet_1 : decode cX9_facet 1 = .ok (.getfield 12, 3) := by decide +kernel
theorem dX9_facet_4 : decode cX9_facet 4 = .ok (.iload_n 1, 1) := by decide +kernel
theorem dX9_facet_5 : decode cX9_facet 5 = .ok (.invokevirtual 98, 3) := by decide +kernel
theorem dX9_facet_8 : decode cX9_facet 8 = .ok (.ifCond .ne 5, 3) := by decide +kernel
theorem dX9_facet_11 : decode cX9_facet 11 = .ok (.iconst (-1), 1) := by decide +kernel
theorem dX9_facet_12 : decode cX9_facet 12 = .ok (.ireturn, 1) := by decide +kernel
theorem dX9_facet_13 : decode cX9_facet 13 = .ok (.iload_n 2, 1) := by decide +kernel
theorem dX9_facet_14 : decode cX9_facet 14 = .ok (.tableswitch 127 0 7 #[46, 55, 64, 73, 82, 94, 103, 115], 46) := by decide +kernel
theorem dX9_facet_60 : decode cX9_facet 60 = .ok (.aload_n 0, 1) := by decide +kernel
theorem dX9_facet_61 : decode cX9_facet 61 = .ok (.getfield 21, 3) := by decide +kernel
theorem dX9_facet_64 : decode cX9_facet 64 = .ok (.iload_n 1, 1) := by decide +kernel
theorem dX9_facet_65 : decode cX9_facet 65 = .ok (.invokevirtual 101, 3) := by decide +kernel
theorem dX9_facet_68 : decode cX9_facet 68 = .ok (.ireturn, 1) := by decide +kernel
theorem dX9_facet_69 : decode cX9_facet 69 = .ok (.aload_n 0, 1) := by decide +kernel
theorem dX9_facet_70 : decode cX9_facet 70 = .ok (.getfield 21, 3) := by decide +kernel
theorem dX9_facet_73 : decode cX9_facet 73 = .ok (.iload_n 1, 1) := by decide +kernel
theorem dX9_facet_74 : decode cX9_facet 74 = .ok (.invokevirtual 105, 3) := by decide +kernel
theorem dX9_facet_77 : decode cX9_facet 77 = .ok (.ireturn, 1) := by decide +kernel
theorem dX9_facet_78 : decode cX9_facet 78 = .ok (.aload_n 0, 1) := by decide +kernel
theorem dX9_facet_79 : decode cX9_facet 79 = .ok (.getfield 21, 3) := by decide +kernel
theorem dX9_facet_82 : decode cX9_facet 82 = .ok (.iload_n 1, 1) := by decide +kernel
theorem dX9_facet_83 : decode cX9_facet 83 = .ok (.invokevirtual 108, 3) := by decide +kernel
theorem dX9_facet_86 : decode cX9_facet 86 = .ok (.ireturn, 1) := by decide +kernel
theorem dX9_facet_87 : decode cX9_facet 87 = .ok (.aload_n 0, 1) := by decide +kernel
theorem dX9_facet_88 : decode cX9_facet 88 = .ok (.getfield 21, 3) := by decide +kernel
theorem dX9_facet_91 : decode cX9_facet 91 = .ok (.iload_n 1, 1) := by decide +kernel
theorem dX9_facet_92 : decode cX9_facet 92 = .ok (.invokevirtual 111, 3) := by decide +kernel
theorem dX9_facet_95 : decode cX9_facet 95 = .ok (.ireturn, 1) := by decide +kernel
theorem dX9_facet_96 : decode cX9_facet 96 = .ok (.aload_n 0, 1) := by decide +kernel
theorem dX9_facet_97 : decode cX9_facet 97 = .ok (.getfield 21, 3) := by decide +kernel
theorem dX9_facet_100 : decode cX9_facet 100 = .ok (.iload_n 1, 1) := by decide +kernel
theorem dX9_facet_101 : decode cX9_facet 101 = .ok (.invokevirtual 114, 3) := by decide +kernel
theorem dX9_facet_104 : decode cX9_facet 104 = .ok (.invokestatic 117, 3) := by decide +kernel
theorem dX9_facet_107 : decode cX9_facet 107 = .ok (.ireturn, 1) := by decide +kernel
theorem dX9_facet_108 : decode cX9_facet 108 = .ok (.aload_n 0, 1) := by decide +kernel
theorem dX9_facet_109 : decode cX9_facet 109 = .ok (.getfield 21, 3) := by decide +kernel
theorem dX9_facet_112 : decode cX9_facet 112 = .ok (.iload_n 1, 1) := by decide +kernel
theorem dX9_facet_113 : decode cX9_facet 113 = .ok (.invokevirtual 121, 3) := by decide +kernel
theorem dX9_facet_116 : decode cX9_facet 116 = .ok (.ireturn, 1) := by decide +kernel
theorem dX9_facet_117 : decode cX9_facet 117 = .ok (.aload_n 0, 1) := by decide +kernel
theorem dX9_facet_118 : decode cX9_facet 118 = .ok (.getfield 37, 3) := by decide +kernel
theorem dX9_facet_121 : decode cX9_facet 121 = .ok (.iload_n 1, 1) := by decide +kernel
theorem dX9_facet_122 : decode cX9_facet 122 = .ok (.invokevirtual 124, 3) := by decide +kernel
theorem dX9_facet_125 : decode cX9_facet 125 = .ok (.invokestatic 117, 3) := by decide +kernel
theorem dX9_facet_128 : decode cX9_facet 128 = .ok (.ireturn, 1) := by decide +kernel
theorem dX9_facet_129 : decode cX9_facet 129 = .ok (.aload_n 0, 1) := by decide +kernel
theorem dX9_facet_130 : decode cX9_facet 130 = .ok (.getfield 44, 3) := by decide +kernel
theorem dX9_facet_133 : decode cX9_facet 133 = .ok (.iload_n 1, 1) := by decide +kernel
theorem dX9_facet_134 : decode cX9_facet 134 = .ok (.invokevirtual 127, 3) := by decide +kernel
theorem dX9_facet_137 : decode cX9_facet 137 = .ok (.invokestatic 117, 3) := by decide +kernel
theorem dX9_facet_140 : decode cX9_facet 140 = .ok (.ireturn, 1) := by decide +kernel
theorem dX9_facet_141 : decode cX9_facet 141 = .ok (.bipush (-2), 2) := by decide +kernel
theorem dX9_facet_143 : decode cX9_facet 143 = .ok (.ireturn, 1) := by decide +kernel
theorem dX9_at_0 : decode cX9_at 0 = .ok (.iload_n 3, 1) := by decide +kernel
theorem dX9_at_1 : decode cX9_at 1 = .ok (.ifCond .lt 8, 3) := by decide +kernel
theorem dX9_at_4 : decode cX9_at 4 = .ok (.iload_n 3, 1) := by decide +kernel
theorem dX9_at_5 : decode cX9_at 5 = .ok (.iconst 3, 1) := by decide +kernel
theorem dX9_at_6 : decode cX9_at 6 = .ok (.if_icmp .le 6, 3) := by decide +kernel
theorem dX9_at_9 : decode cX9_at 9 = .ok (.bipush (-2), 2) := by decide +kernel
theorem dX9_at_11 : decode cX9_at 11 = .ok (.ireturn, 1) := by decide +kernel
theorem dX9_at_12 : decode cX9_at 12 = .ok (.aload_n 0, 1) := by decide +kernel
theorem dX9_at_13 : decode cX9_at 13 = .ok (.getfield 21, 3) := by decide +kernel
theorem dX9_at_16 : decode cX9_at 16 = .ok (.iload_n 1, 1) := by decide +kernel
theorem dX9_at_17 : decode cX9_at 17 = .ok (.iload_n 2, 1) := by decide +kernel
theorem dX9_at_18 : decode cX9_at 18 = .ok (.iload_n 3, 1) := by decide +kernel
theorem dX9_at_19 : decode cX9_at 19 = .ok (.iload 4, 2) := by decide +kernel
theorem dX9_at_21 : decode cX9_at 21 = .ok (.invokevirtual 128, 3) := by decide +kernel
theorem dX9_at_24 : decode cX9_at 24 = .ok (.ireturn, 1) := by decide +kernel
theorem dX9_places_0 : decode cX9_places 0 = .ok (.aload_n 0, 1) := by decide +kernel
theorem dX9_places_1 : decode cX9_places 1 = .ok (.getfield 21, 3) := by decide +kernel
theorem dX9_places_4 : decode cX9_places 4 = .ok (.invokevirtual 91, 3) := by decide +kernel
theorem dX9_places_7 : decode cX9_places 7 = .ok (.ireturn, 1) := by decide +kernel
theorem dX9_deepest_0 : decode cX9_deepest 0 = .ok (.aload_n 0, 1) := by decide +kernel
theorem dX9_deepest_1 : decode cX9_deepest 1 = .ok (.getfield 21, 3) := by decide +kernel
theorem dX9_deepest_4 : decode cX9_deepest 4 = .ok (.invokevirtual 132, 3) := by decide +kernel
theorem dX9_deepest_7 : decode cX9_deepest 7 = .ok (.ireturn, 1) := by decide +kernel
theorem dX9_reach_0 : decode cX9_reach 0 = .ok (.iload_n 1, 1) := by decide +kernel
theorem dX9_reach_1 : decode cX9_reach 1 = .ok (.tableswitch 63 0 3 #[31, 39, 47, 55], 31) := by decide +kernel
theorem dX9_reach_32 : decode cX9_reach 32 = .ok (.aload_n 0, 1) := by decide +kernel
theorem dX9_reach_33 : decode cX9_reach 33 = .ok (.getfield 21, 3) := by decide +kernel
theorem dX9_reach_36 : decode cX9_reach 36 = .ok (.invokevirtual 135, 3) := by decide +kernel
theorem dX9_reach_39 : decode cX9_reach 39 = .ok (.ireturn, 1) := by decide +kernel
theorem dX9_reach_40 : decode cX9_reach 40 = .ok (.aload_n 0, 1) := by decide +kernel
theorem dX9_reach_41 : decode cX9_reach 41 = .ok (.getfield 21, 3) := by decide +kernel
theorem dX9_reach_44 : decode cX9_reach 44 = .ok (.invokevirtual 138, 3) := by decide +kernel
theorem dX9_reach_47 : decode cX9_reach 47 = .ok (.ireturn, 1) := by decide +kernel
theorem dX9_reach_48 : decode cX9_reach 48 = .ok (.aload_n 0, 1) := by decide +kernel
theorem dX9_reach_49 : decode cX9_reach 49 = .ok (.getfield 21, 3) := by decide +kernel
theorem dX9_reach_52 : decode cX9_reach 52 = .ok (.invokevirtual 141, 3) := by decide +kernel
theorem dX9_reach_55 : decode cX9_reach 55 = .ok (.ireturn, 1) := by decide +kernel
theorem dX9_reach_56 : decode cX9_reach 56 = .ok (.aload_n 0, 1) := by decide +kernel
theorem dX9_reach_57 : decode cX9_reach 57 = .ok (.getfield 21, 3) := by decide +kernel
theorem dX9_reach_60 : decode cX9_reach 60 = .ok (.invokevirtual 144, 3) := by decide +kernel
theorem dX9_reach_63 : decode cX9_reach 63 = .ok (.ireturn, 1) := by decide +kernel
theorem dX9_reach_64 : decode cX9_reach 64 = .ok (.bipush (-2), 2) := by decide +kernel
theorem dX9_reach_66 : decode cX9_reach 66 = .ok (.ireturn, 1) := by decide +kernel
theorem dX9_folds_0 : decode cX9_folds 0 = .ok (.aload_n 0, 1) := by decide +kernel
theorem dX9_folds_1 : decode cX9_folds 1 = .ok (.getfield 21, 3) := by decide +kernel
theorem dX9_folds_4 : decode cX9_folds 4 = .ok (.getfield 85, 3) := by decide +kernel
theorem dX9_folds_7 : decode cX9_folds 7 = .ok (.ireturn, 1) := by decide +kernel
theorem dX9_crease_0 : decode cX9_crease 0 = .ok (.aload_n 0, 1) := by decide +kernel
theorem dX9_crease_1 : decode cX9_crease 1 = .ok (.getfield 12, 3) := by decide +kernel
theorem dX9_crease_4 : decode cX9_crease 4 = .ok (.iload_n 1, 1) := by decide +kernel
theorem dX9_crease_5 : decode cX9_crease 5 = .ok (.invokevirtual 98, 3) := by decide +kernel
theorem dX9_crease_8 : decode cX9_crease 8 = .ok (.ifCond .ne 5, 3) := by decide +kernel
theorem dX9_crease_11 : decode cX9_crease 11 = .ok (.iconst (-1), 1) := by decide +kernel
theorem dX9_crease_12 : decode cX9_crease 12 = .ok (.ireturn, 1) := by decide +kernel
theorem dX9_crease_13 : decode cX9_crease 13 = .ok (.iload_n 2, 1) := by decide +kernel
theorem dX9_crease_14 : decode cX9_crease 14 = .ok (.invokestatic 147, 3) := by decide +kernel
theorem dX9_crease_17 : decode cX9_crease 17 = .ok (.ifCond .eq 15, 3) := by decide +kernel
theorem dX9_crease_20 : decode cX9_crease 20 = .ok (.aload_n 0, 1) := by decide +kernel
theorem dX9_crease_21 : decode cX9_crease 21 = .ok (.getfield 30, 3) := by decide +kernel
theorem dX9_crease_24 : decode cX9_crease 24 = .ok (.iload_n 1, 1) := by decide +kernel
theorem dX9_crease_25 : decode cX9_crease 25 = .ok (.iload_n 2, 1) := by decide +kernel
theorem dX9_crease_26 : decode cX9_crease 26 = .ok (.invokevirtual 150, 3) := by decide +kernel
theorem dX9_crease_29 : decode cX9_crease 29 = .ok (.goto 5, 3) := by decide +kernel
theorem dX9_crease_32 : decode cX9_crease 32 = .ok (.bipush (-2), 2) := by decide +kernel
theorem dX9_crease_34 : decode cX9_crease 34 = .ok (.ireturn, 1) := by decide +kernel
theorem dX9_neighbour_0 : decode cX9_neighbour 0 = .ok (.aload_n 0, 1) := by decide +kernel
theorem dX9_neighbour_1 : decode cX9_neighbour 1 = .ok (.getfield 12, 3) := by decide +kernel
theorem dX9_neighbour_4 : decode cX9_neighbour 4 = .ok (.iload_n 1, 1) := by decide +kernel
theorem dX9_neighbour_5 : decode cX9_neighbour 5 = .ok (.invokevirtual 98, 3) := by decide +kernel
theorem dX9_neighbour_8 : decode cX9_neighbour 8 = .ok (.ifCond .ne 5, 3) := by decide +kernel
theorem dX9_neighbour_11 : decode cX9_neighbour 11 = .ok (.iconst (-1), 1) := by decide +kernel
theorem dX9_neighbour_12 : decode cX9_neighbour 12 = .ok (.ireturn, 1) := by decide +kernel
theorem dX9_neighbour_13 : decode cX9_neighbour 13 = .ok (.iload_n 2, 1) := by decide +kernel
theorem dX9_neighbour_14 : decode cX9_neighbour 14 = .ok (.invokestatic 147, 3) := by decide +kernel
theorem dX9_neighbour_17 : decode cX9_neighbour 17 = .ok (.ifCond .eq 15, 3) := by decide +kernel
theorem dX9_neighbour_20 : decode cX9_neighbour 20 = .ok (.aload_n 0, 1) := by decide +kernel
theorem dX9_neighbour_21 : decode cX9_neighbour 21 = .ok (.getfield 12, 3) := by decide +kernel
theorem dX9_neighbour_24 : decode cX9_neighbour 24 = .ok (.iload_n 1, 1) := by decide +kernel
theorem dX9_neighbour_25 : decode cX9_neighbour 25 = .ok (.iload_n 2, 1) := by decide +kernel
theorem dX9_neighbour_26 : decode cX9_neighbour 26 = .ok (.invokevirtual 154, 3) := by decide +kernel
theorem dX9_neighbour_29 : decode cX9_neighbour 29 = .ok (.goto 5, 3) := by decide +kernel
theorem dX9_neighbour_32 : decode cX9_neighbour 32 = .ok (.bipush (-2), 2) := by decide +kernel
theorem dX9_neighbour_34 : decode cX9_neighbour 34 = .ok (.ireturn, 1) := by decide +kernel
theorem dX9_creases_0 : decode cX9_creases 0 = .ok (.aload_n 0, 1) := by decide +kernel
theorem dX9_creases_1 : decode cX9_creases 1 = .ok (.getfield 30, 3) := by decide +kernel
theorem dX9_creases_4 : decode cX9_creases 4 = .ok (.iload_n 1, 1) := by decide +kernel
theorem dX9_creases_5 : decode cX9_creases 5 = .ok (.ifCond .eq 7, 3) := by decide +kernel
theorem dX9_creases_8 : decode cX9_creases 8 = .ok (.iconst 2, 1) := by decide +kernel
theorem dX9_creases_9 : decode cX9_creases 9 = .ok (.goto 4, 3) := by decide +kernel
theorem dX9_creases_12 : decode cX9_creases 12 = .ok (.iconst 1, 1) := by decide +kernel
theorem dX9_creases_13 : decode cX9_creases 13 = .ok (.invokevirtual 157, 3) := by decide +kernel
theorem dX9_creases_16 : decode cX9_creases 16 = .ok (.ireturn, 1) := by decide +kernel
theorem dX9_balance_0 : decode cX9_balance 0 = .ok (.aload_n 0, 1) := by decide +kernel
theorem dX9_balance_1 : decode cX9_balance 1 = .ok (.getfield 12, 3) := by decide +kernel
theorem dX9_balance_4 : decode cX9_balance 4 = .ok (.iload_n 1, 1) := by decide +kernel
theorem dX9_balance_5 : decode cX9_balance 5 = .ok (.iload_n 2, 1) := by decide +kernel
theorem dX9_balance_6 : decode cX9_balance 6 = .ok (.iload_n 3, 1) := by decide +kernel
theorem dX9_balance_7 : decode cX9_balance 7 = .ok (.invokevirtual 160, 3) := by decide +kernel
theorem dX9_balance_10 : decode cX9_balance 10 = .ok (.ifCond .ne 6, 3) := by decide +kernel
theorem dX9_balance_13 : decode cX9_balance 13 = .ok (.bipush (-2), 2) := by decide +kernel
theorem dX9_balance_15 : decode cX9_balance 15 = .ok (.ireturn, 1) := by decide +kernel
theorem dX9_balance_16 : decode cX9_balance 16 = .ok (.aload_n 0, 1) := by decide +kernel
theorem dX9_balance_17 : decode cX9_balance 17 = .ok (.getfield 30, 3) := by decide +kernel
theorem dX9_balance_20 : decode cX9_balance 20 = .ok (.iconst 2, 1) := by decide +kernel
theorem dX9_balance_21 : decode cX9_balance 21 = .ok (.iload_n 1, 1) := by decide +kernel
theorem dX9_balance_22 : decode cX9_balance 22 = .ok (.iload_n 2, 1) := by decide +kernel
theorem dX9_balance_23 : decode cX9_balance 23 = .ok (.iload_n 3, 1) := by decide +kernel
theorem dX9_balance_24 : decode cX9_balance 24 = .ok (.invokevirtual 164, 3) := by decide +kernel
theorem dX9_balance_27 : decode cX9_balance 27 = .ok (.aload_n 0, 1) := by decide +kernel
theorem dX9_balance_28 : decode cX9_balance 28 = .ok (.getfield 30, 3) := by decide +kernel
theorem dX9_balance_31 : decode cX9_balance 31 = .ok (.iconst 1, 1) := by decide +kernel
theorem dX9_balance_32 : decode cX9_balance 32 = .ok (.iload_n 1, 1) := by decide +kernel
theorem dX9_balance_33 : decode cX9_balance 33 = .ok (.iload_n 2, 1) := by decide +kernel
theorem dX9_balance_34 : decode cX9_balance 34 = .ok (.iload_n 3, 1) := by decide +kernel
theorem dX9_balance_35 : decode cX9_balance 35 = .ok (.invokevirtual 164, 3) := by decide +kernel
theorem dX9_balance_38 : decode cX9_balance 38 = .ok (.isub, 1) := by decide +kernel
theorem dX9_balance_39 : decode cX9_balance 39 = .ok (.ireturn, 1) := by decide +kernel
theorem dX9_degree_0 : decode cX9_degree 0 = .ok (.aload_n 0, 1) := by decide +kernel
theorem dX9_degree_1 : decode cX9_degree 1 = .ok (.getfield 12, 3) := by decide +kernel
theorem dX9_degree_4 : decode cX9_degree 4 = .ok (.iload_n 1, 1) := by decide +kernel
theorem dX9_degree_5 : decode cX9_degree 5 = .ok (.iload_n 2, 1) := by decide +kernel
theorem dX9_degree_6 : decode cX9_degree 6 = .ok (.iload_n 3, 1) := by decide +kernel
theorem dX9_degree_7 : decode cX9_degree 7 = .ok (.invokevirtual 160, 3) := by decide +kernel
theorem dX9_degree_10 : decode cX9_degree 10 = .ok (.ifCond .ne 6, 3) := by decide +kernel
theorem dX9_degree_13 : decode cX9_degree 13 = .ok (.bipush (-2), 2) := by decide +kernel
theorem dX9_degree_15 : decode cX9_degree 15 = .ok (.ireturn, 1) := by decide +kernel
theorem dX9_degree_16 : decode cX9_degree 16 = .ok (.aload_n 0, 1) := by decide +kernel
theorem dX9_degree_17 : decode cX9_degree 17 = .ok (.getfield 30, 3) := by decide +kernel
theorem dX9_degree_20 : decode cX9_degree 20 = .ok (.iconst 2, 1) := by decide +kernel
theorem dX9_degree_21 : decode cX9_degree 21 = .ok (.iload_n 1, 1) := by decide +kernel
theorem dX9_degree_22 : decode cX9_degree 22 = .ok (.iload_n 2, 1) := by decide +kernel
theorem dX9_degree_23 : decode cX9_degree 23 = .ok (.iload_n 3, 1) := by decide +kernel
theorem dX9_degree_24 : decode cX9_degree 24 = .ok (.invokevirtual 164, 3) := by decide +kernel
theorem dX9_degree_27 : decode cX9_degree 27 = .ok (.aload_n 0, 1) := by decide +kernel
theorem dX9_degree_28 : decode cX9_degree 28 = .ok (.getfield 30, 3) := by decide +kernel
theorem dX9_degree_31 : decode cX9_degree 31 = .ok (.iconst 1, 1) := by decide +kernel
theorem dX9_degree_32 : decode cX9_degree 32 = .ok (.iload_n 1, 1) := by decide +kernel
theorem dX9_degree_33 : decode cX9_degree 33 = .ok (.iload_n 2, 1) := by decide +kernel
theorem dX9_degree_34 : decode cX9_degree 34 = .ok (.iload_n 3, 1) := by decide +kernel
theorem dX9_degree_35 : decode cX9_degree 35 = .ok (.invokevirtual 164, 3) := by decide +kernel
theorem dX9_degree_38 : decode cX9_degree 38 = .ok (.iadd, 1) := by decide +kernel
theorem dX9_degree_39 : decode cX9_degree 39 = .ok (.ireturn, 1) := by decide +kernel
theorem dX9_knife_0 : decode cX9_knife 0 = .ok (.iload_n 1, 1) := by decide +kernel
theorem dX9_knife_1 : decode cX9_knife 1 = .ok (.iconst 1, 1) := by decide +kernel
theorem dX9_knife_2 : decode cX9_knife 2 = .ok (.if_icmp .lt 10, 3) := by decide +kernel
theorem dX9_knife_5 : decode cX9_knife 5 = .ok (.iload_n 1, 1) := by decide +kernel
theorem dX9_knife_6 : decode cX9_knife 6 = .ok (.sipush 144, 3) := by decide +kernel
theorem dX9_knife_9 : decode cX9_knife 9 = .ok (.if_icmp .le 6, 3) := by decide +kernel
theorem dX9_knife_12 : decode cX9_knife 12 = .ok (.bipush (-2), 2) := by decide +kernel
theorem dX9_knife_14 : decode cX9_knife 14 = .ok (.ireturn, 1) := by decide +kernel
theorem dX9_knife_15 : decode cX9_knife 15 = .ok (.aload_n 0, 1) := by decide +kernel
theorem dX9_knife_16 : decode cX9_knife 16 = .ok (.getfield 57, 3) := by decide +kernel
theorem dX9_knife_19 : decode cX9_knife 19 = .ok (.istore_n 2, 1) := by decide +kernel
theorem dX9_knife_20 : decode cX9_knife 20 = .ok (.aload_n 0, 1) := by decide +kernel
theorem dX9_knife_21 : decode cX9_knife 21 = .ok (.iload_n 1, 1) := by decide +kernel
theorem dX9_knife_22 : decode cX9_knife 22 = .ok (.putfield 57, 3) := by decide +kernel
theorem dX9_knife_25 : decode cX9_knife 25 = .ok (.iload_n 2, 1) := by decide +kernel
theorem dX9_knife_26 : decode cX9_knife 26 = .ok (.ireturn, 1) := by decide +kernel
theorem dX9_thickness_0 : decode cX9_thickness 0 = .ok (.iload_n 1, 1) := by decide +kernel
theorem dX9_thickness_1 : decode cX9_thickness 1 = .ok (.iload_n 2, 1) := by decide +kernel
theorem dX9_thickness_2 : decode cX9_thickness 2 = .ok (.invokestatic 68, 3) := by decide +kernel
theorem dX9_thickness_5 : decode cX9_thickness 5 = .ok (.ifCond .eq 15, 3) := by decide +kernel
theorem dX9_thickness_8 : decode cX9_thickness 8 = .ok (.aload_n 0, 1) := by decide +kernel
theorem dX9_thickness_9 : decode cX9_thickness 9 = .ok (.getfield 21, 3) := by decide +kernel
theorem dX9_thickness_12 : decode cX9_thickness 12 = .ok (.iload_n 1, 1) := by decide +kernel
theorem dX9_thickness_13 : decode cX9_thickness 13 = .ok (.iload_n 2, 1) := by decide +kernel
theorem dX9_thickness_14 : decode cX9_thickness 14 = .ok (.invokevirtual 168, 3) := by decide +kernel
theorem dX9_thickness_17 : decode cX9_thickness 17 = .ok (.goto 5, 3) := by decide +kernel
theorem dX9_thickness_20 : decode cX9_thickness 20 = .ok (.bipush (-2), 2) := by decide +kernel
theorem dX9_thickness_22 : decode cX9_thickness 22 = .ok (.ireturn, 1) := by decide +kernel
theorem dX9_would_0 : decode cX9_would 0 = .ok (.iload_n 1, 1) := by decide +kernel
theorem dX9_would_1 : decode cX9_would 1 = .ok (.iload_n 2, 1) := by decide +kernel
theorem dX9_would_2 : decode cX9_would 2 = .ok (.invokestatic 68, 3) := by decide +kernel
theorem dX9_would_5 : decode cX9_would 5 = .ok (.ifCond .eq 10, 3) := by decide +kernel
theorem dX9_would_8 : decode cX9_would 8 = .ok (.iload_n 3, 1) := by decide +kernel
theorem dX9_would_9 : decode cX9_would 9 = .ok (.invokestatic 74, 3) := by decide +kernel
theorem dX9_would_12 : decode cX9_would 12 = .ok (.ifCond .ne 6, 3) := by decide +kernel
theorem dX9_would_15 : decode cX9_would 15 = .ok (.bipush (-2), 2) := by decide +kernel
theorem dX9_would_17 : decode cX9_would 17 = .ok (.ireturn, 1) := by decide +kernel
theorem dX9_would_18 : decode cX9_would 18 = .ok (.aload_n 0, 1) := by decide +kernel
theorem dX9_would_19 : decode cX9_would 19 = .ok (.getfield 21, 3) := by decide +kernel
theorem dX9_would_22 : decode cX9_would 22 = .ok (.iload_n 1, 1) := by decide +kernel
theorem dX9_would_23 : decode cX9_would 23 = .ok (.iload_n 2, 1) := by decide +kernel
theorem dX9_would_24 : decode cX9_would 24 = .ok (.iload_n 3, 1) := by decide +kernel
theorem dX9_would_25 : decode cX9_would 25 = .ok (.invokevirtual 171, 3) := by decide +kernel
theorem dX9_would_28 : decode cX9_would 28 = .ok (.ireturn, 1) := by decide +kernel
theorem dX9_cut_0 : decode cX9_cut 0 = .ok (.iload_n 1, 1) := by decide +kernel
theorem dX9_cut_1 : decode cX9_cut 1 = .ok (.iload_n 2, 1) := by decide +kernel
theorem dX9_cut_2 : decode cX9_cut 2 = .ok (.invokestatic 68, 3) := by decide +kernel
theorem dX9_cut_5 : decode cX9_cut 5 = .ok (.ifCond .eq 10, 3) := by decide +kernel
theorem dX9_cut_8 : decode cX9_cut 8 = .ok (.iload_n 3, 1) := by decide +kernel
theorem dX9_cut_9 : decode cX9_cut 9 = .ok (.invokestatic 74, 3) := by decide +kernel
theorem dX9_cut_12 : decode cX9_cut 12 = .ok (.ifCond .ne 6, 3) := by decide +kernel
theorem dX9_cut_15 : decode cX9_cut 15 = .ok (.bipush (-2), 2) := by decide +kernel
theorem dX9_cut_17 : decode cX9_cut 17 = .ok (.ireturn, 1) := by decide +kernel
theorem dX9_cut_18 : decode cX9_cut 18 = .ok (.aload_n 0, 1) := by decide +kernel
theorem dX9_cut_19 : decode cX9_cut 19 = .ok (.getfield 37, 3) := by decide +kernel
theorem dX9_cut_22 : decode cX9_cut 22 = .ok (.getfield 78, 3) := by decide +kernel
theorem dX9_cut_25 : decode cX9_cut 25 = .ok (.ifCond .eq 6, 3) := by decide +kernel
theorem dX9_cut_28 : decode cX9_cut 28 = .ok (.bipush (-3), 2) := by decide +kernel
theorem dX9_cut_30 : decode cX9_cut 30 = .ok (.ireturn, 1) := by decide +kernel
theorem dX9_cut_31 : decode cX9_cut 31 = .ok (.aload_n 0, 1) := by decide +kernel
theorem dX9_cut_32 : decode cX9_cut 32 = .ok (.getfield 21, 3) := by decide +kernel
theorem dX9_cut_35 : decode cX9_cut 35 = .ok (.iload_n 1, 1) := by decide +kernel
theorem dX9_cut_36 : decode cX9_cut 36 = .ok (.iload_n 2, 1) := by decide +kernel
theorem dX9_cut_37 : decode cX9_cut 37 = .ok (.invokevirtual 168, 3) := by decide +kernel
theorem dX9_cut_40 : decode cX9_cut 40 = .ok (.aload_n 0, 1) := by decide +kernel
theorem dX9_cut_41 : decode cX9_cut 41 = .ok (.getfield 57, 3) := by decide +kernel
theorem dX9_cut_44 : decode cX9_cut 44 = .ok (.if_icmp .le 6, 3) := by decide +kernel
theorem dX9_cut_47 : decode cX9_cut 47 = .ok (.bipush (-4), 2) := by decide +kernel
theorem dX9_cut_49 : decode cX9_cut 49 = .ok (.ireturn, 1) := by decide +kernel
theorem dX9_cut_50 : decode cX9_cut 50 = .ok (.aload_n 0, 1) := by decide +kernel
theorem dX9_cut_51 : decode cX9_cut 51 = .ok (.getfield 37, 3) := by decide +kernel
theorem dX9_cut_54 : decode cX9_cut 54 = .ok (.aload_n 0, 1) := by decide +kernel
theorem dX9_cut_55 : decode cX9_cut 55 = .ok (.getfield 21, 3) := by decide +kernel
theorem dX9_cut_58 : decode cX9_cut 58 = .ok (.iload_n 1, 1) := by decide +kernel
theorem dX9_cut_59 : decode cX9_cut 59 = .ok (.iload_n 2, 1) := by decide +kernel
theorem dX9_cut_60 : decode cX9_cut 60 = .ok (.iload_n 3, 1) := by decide +kernel
theorem dX9_cut_61 : decode cX9_cut 61 = .ok (.invokevirtual 175, 3) := by decide +kernel
theorem dX9_cut_64 : decode cX9_cut 64 = .ok (.aload_n 0, 1) := by decide +kernel
theorem dX9_cut_65 : decode cX9_cut 65 = .ok (.getfield 37, 3) := by decide +kernel
theorem dX9_cut_68 : decode cX9_cut 68 = .ok (.getfield 179, 3) := by decide +kernel
theorem dX9_cut_71 : decode cX9_cut 71 = .ok (.ireturn, 1) := by decide +kernel
theorem dX9_pieces_0 : decode cX9_pieces 0 = .ok (.aload_n 0, 1) := by decide +kernel
theorem dX9_pieces_1 : decode cX9_pieces 1 = .ok (.getfield 37, 3) := by decide +kernel
theorem dX9_pieces_4 : decode cX9_pieces 4 = .ok (.iload_n 1, 1) := by decide +kernel
theorem dX9_pieces_5 : decode cX9_pieces 5 = .ok (.ifCond .ne 7, 3) := by decide +kernel
theorem dX9_pieces_8 : decode cX9_pieces 8 = .ok (.iconst 1, 1) := by decide +kernel
theorem dX9_pieces_9 : decode cX9_pieces 9 = .ok (.goto 4, 3) := by decide +kernel
theorem dX9_pieces_12 : decode cX9_pieces 12 = .ok (.iconst 0, 1) := by decide +kernel
theorem dX9_pieces_13 : decode cX9_pieces 13 = .ok (.invokevirtual 182, 3) := by decide +kernel
theorem dX9_pieces_16 : decode cX9_pieces 16 = .ok (.ireturn, 1) := by decide +kernel
theorem dX9_holes_0 : decode cX9_holes 0 = .ok (.aload_n 0, 1) := by decide +kernel
theorem dX9_holes_1 : decode cX9_holes 1 = .ok (.getfield 37, 3) := by decide +kernel
theorem dX9_holes_4 : decode cX9_holes 4 = .ok (.invokevirtual 184, 3) := by decide +kernel
theorem dX9_holes_7 : decode cX9_holes 7 = .ok (.ireturn, 1) := by decide +kernel
theorem dX9_rims_0 : decode cX9_rims 0 = .ok (.iload_n 1, 1) := by decide +kernel
theorem dX9_rims_1 : decode cX9_rims 1 = .ok (.ifCond .eq 23, 3) := by decide +kernel
theorem dX9_rims_4 : decode cX9_rims 4 = .ok (.aload_n 0, 1) := by decide +kernel
theorem dX9_rims_5 : decode cX9_rims 5 = .ok (.getfield 37, 3) := by decide +kernel
theorem dX9_rims_8 : decode cX9_rims 8 = .ok (.iconst 1, 1) := by decide +kernel
theorem dX9_rims_9 : decode cX9_rims 9 = .ok (.invokevirtual 187, 3) := by decide +kernel
theorem dX9_rims_12 : decode cX9_rims 12 = .ok (.aload_n 0, 1) := by decide +kernel
theorem dX9_rims_13 : decode cX9_rims 13 = .ok (.getfield 37, 3) := by decide +kernel
theorem dX9_rims_16 : decode cX9_rims 16 = .ok (.iconst 2, 1) := by decide +kernel
theorem dX9_rims_17 : decode cX9_rims 17 = .ok (.invokevirtual 187, 3) := by decide +kernel
theorem dX9_rims_20 : decode cX9_rims 20 = .ok (.iadd, 1) := by decide +kernel
theorem dX9_rims_21 : decode cX9_rims 21 = .ok (.goto 11, 3) := by decide +kernel
theorem dX9_rims_24 : decode cX9_rims 24 = .ok (.aload_n 0, 1) := by decide +kernel
theorem dX9_rims_25 : decode cX9_rims 25 = .ok (.getfield 37, 3) := by decide +kernel
theorem dX9_rims_28 : decode cX9_rims 28 = .ok (.iconst 0, 1) := by decide +kernel
theorem dX9_rims_29 : decode cX9_rims 29 = .ok (.invokevirtual 187, 3) := by decide +kernel
theorem dX9_rims_32 : decode cX9_rims 32 = .ok (.ireturn, 1) := by decide +kernel
theorem dX9_piece_0 : decode cX9_piece 0 = .ok (.aload_n 0, 1) := by decide +kernel
theorem dX9_piece_1 : decode cX9_piece 1 = .ok (.getfield 12, 3) := by decide +kernel
theorem dX9_piece_4 : decode cX9_piece 4 = .ok (.iload_n 1, 1) := by decide +kernel
theorem dX9_piece_5 : decode cX9_piece 5 = .ok (.invokevirtual 98, 3) := by decide +kernel
theorem dX9_piece_8 : decode cX9_piece 8 = .ok (.ifCond .eq 14, 3) := by decide +kernel
theorem dX9_piece_11 : decode cX9_piece 11 = .ok (.aload_n 0, 1) := by decide +kernel
theorem dX9_piece_12 : decode cX9_piece 12 = .ok (.getfield 37, 3) := by decide +kernel
theorem dX9_piece_15 : decode cX9_piece 15 = .ok (.iload_n 1, 1) := by decide +kernel
theorem dX9_piece_16 : decode cX9_piece 16 = .ok (.invokevirtual 190, 3) := by decide +kernel
theorem dX9_piece_19 : decode cX9_piece 19 = .ok (.goto 4, 3) := by decide +kernel
theorem dX9_piece_22 : decode cX9_piece 22 = .ok (.iconst (-1), 1) := by decide +kernel
theorem dX9_piece_23 : decode cX9_piece 23 = .ok (.ireturn, 1) := by decide +kernel
theorem dX9_mark_0 : decode cX9_mark 0 = .ok (.aload_n 0, 1) := by decide +kernel
theorem dX9_mark_1 : decode cX9_mark 1 = .ok (.getfield 12, 3) := by decide +kernel
theorem dX9_mark_4 : decode cX9_mark 4 = .ok (.iload_n 1, 1) := by decide +kernel
theorem dX9_mark_5 : decode cX9_mark 5 = .ok (.invokevirtual 98, 3) := by decide +kernel
theorem dX9_mark_8 : decode cX9_mark 8 = .ok (.ifCond .ne 5, 3) := by decide +kernel
theorem dX9_mark_11 : decode cX9_mark 11 = .ok (.iconst (-1), 1) := by decide +kernel
theorem dX9_mark_12 : decode cX9_mark 12 = .ok (.ireturn, 1) := by decide +kernel
theorem dX9_mark_13 : decode cX9_mark 13 = .ok (.aload_n 0, 1) := by decide +kernel
theorem dX9_mark_14 : decode cX9_mark 14 = .ok (.getfield 44, 3) := by decide +kernel
theorem dX9_mark_17 : decode cX9_mark 17 = .ok (.iload_n 1, 1) := by decide +kernel
theorem dX9_mark_18 : decode cX9_mark 18 = .ok (.invokevirtual 127, 3) := by decide +kernel
theorem dX9_mark_21 : decode cX9_mark 21 = .ok (.invokestatic 117, 3) := by decide +kernel
theorem dX9_mark_24 : decode cX9_mark 24 = .ok (.istore_n 3, 1) := by decide +kernel
theorem dX9_mark_25 : decode cX9_mark 25 = .ok (.aload_n 0, 1) := by decide +kernel
theorem dX9_mark_26 : decode cX9_mark 26 = .ok (.iload_n 1, 1) := by decide +kernel
theorem dX9_mark_27 : decode cX9_mark 27 = .ok (.iload_n 2, 1) := by decide +kernel
theorem dX9_mark_28 : decode cX9_mark 28 = .ok (.invokevirtual 193, 3) := by decide +kernel
theorem dX9_mark_31 : decode cX9_mark 31 = .ok (.iload_n 3, 1) := by decide +kernel
theorem dX9_mark_32 : decode cX9_mark 32 = .ok (.ireturn, 1) := by decide +kernel
theorem dX9_markCell_0 : decode cX9_markCell 0 = .ok (.aload_n 0, 1) := by decide +kernel
theorem dX9_markCell_1 : decode cX9_markCell 1 = .ok (.getfield 12, 3) := by decide +kernel
theorem dX9_markCell_4 : decode cX9_markCell 4 = .ok (.iload_n 1, 1) := by decide +kernel
theorem dX9_markCell_5 : decode cX9_markCell 5 = .ok (.iload_n 2, 1) := by decide +kernel
theorem dX9_markCell_6 : decode cX9_markCell 6 = .ok (.invokevirtual 197, 3) := by decide +kernel
theorem dX9_markCell_9 : decode cX9_markCell 9 = .ok (.ifCond .ne 6, 3) := by decide +kernel
theorem dX9_markCell_12 : decode cX9_markCell 12 = .ok (.bipush (-2), 2) := by decide +kernel
theorem dX9_markCell_14 : decode cX9_markCell 14 = .ok (.ireturn, 1) := by decide +kernel
theorem dX9_markCell_15 : decode cX9_markCell 15 = .ok (.iconst 0, 1) := by decide +kernel
theorem dX9_markCell_16 : decode cX9_markCell 16 = .ok (.istore 4, 2) := by decide +kernel
theorem dX9_markCell_18 : decode cX9_markCell 18 = .ok (.iload 4, 2) := by decide +kernel
theorem dX9_markCell_20 : decode cX9_markCell 20 = .ok (.iconst 4, 1) := by decide +kernel
theorem dX9_markCell_21 : decode cX9_markCell 21 = .ok (.if_icmp .ge 25, 3) := by decide +kernel
theorem dX9_markCell_24 : decode cX9_markCell 24 = .ok (.aload_n 0, 1) := by decide +kernel
theorem dX9_markCell_25 : decode cX9_markCell 25 = .ok (.aload_n 0, 1) := by decide +kernel
theorem dX9_markCell_26 : decode cX9_markCell 26 = .ok (.getfield 12, 3) := by decide +kernel
theorem dX9_markCell_29 : decode cX9_markCell 29 = .ok (.iload_n 1, 1) := by decide +kernel
theorem dX9_markCell_30 : decode cX9_markCell 30 = .ok (.iload_n 2, 1) := by decide +kernel
theorem dX9_markCell_31 : decode cX9_markCell 31 = .ok (.iload 4, 2) := by decide +kernel
theorem dX9_markCell_33 : decode cX9_markCell 33 = .ok (.invokevirtual 200, 3) := by decide +kernel
theorem dX9_markCell_36 : decode cX9_markCell 36 = .ok (.iload_n 3, 1) := by decide +kernel
theorem dX9_markCell_37 : decode cX9_markCell 37 = .ok (.invokevirtual 193, 3) := by decide +kernel
theorem dX9_markCell_40 : decode cX9_markCell 40 = .ok (.iinc 4 1, 3) := by decide +kernel
theorem dX9_markCell_43 : decode cX9_markCell 43 = .ok (.goto (-25), 3) := by decide +kernel
theorem dX9_markCell_46 : decode cX9_markCell 46 = .ok (.aload_n 0, 1) := by decide +kernel
theorem dX9_markCell_47 : decode cX9_markCell 47 = .ok (.getfield 44, 3) := by decide +kernel
theorem dX9_markCell_50 : decode cX9_markCell 50 = .ok (.getfield 203, 3) := by decide +kernel
theorem dX9_markCell_53 : decode cX9_markCell 53 = .ok (.ireturn, 1) := by decide +kernel
theorem dX9_take_0 : decode cX9_take 0 = .ok (.aload_n 0, 1) := by decide +kernel
theorem dX9_take_1 : decode cX9_take 1 = .ok (.getfield 37, 3) := by decide +kernel
theorem dX9_take_4 : decode cX9_take 4 = .ok (.getfield 78, 3) := by decide +kernel
theorem dX9_take_7 : decode cX9_take 7 = .ok (.ifCond .ne 6, 3) := by decide +kernel
theorem dX9_take_10 : decode cX9_take 10 = .ok (.bipush (-3), 2) := by decide +kernel
theorem dX9_take_12 : decode cX9_take 12 = .ok (.ireturn, 1) := by decide +kernel
theorem dX9_take_13 : decode cX9_take 13 = .ok (.iconst 0, 1) := by decide +kernel
theorem dX9_take_14 : decode cX9_take 14 = .ok (.istore_n 1, 1) := by decide +kernel
theorem dX9_take_15 : decode cX9_take 15 = .ok (.iload_n 1, 1) := by decide +kernel
theorem dX9_take_16 : decode cX9_take 16 = .ok (.aload_n 0, 1) := by decide +kernel
theorem dX9_take_17 : decode cX9_take 17 = .ok (.getfield 12, 3) := by decide +kernel
theorem dX9_take_20 : decode cX9_take 20 = .ok (.getfield 205, 3) := by decide +kernel
theorem dX9_take_23 : decode cX9_take 23 = .ok (.if_icmp .ge 22, 3) := by decide +kernel
theorem dX9_take_26 : decode cX9_take 26 = .ok (.aload_n 0, 1) := by decide +kernel
theorem dX9_take_27 : decode cX9_take 27 = .ok (.iload_n 1, 1) := by decide +kernel
theorem dX9_take_28 : decode cX9_take 28 = .ok (.aload_n 0, 1) := by decide +kernel
theorem dX9_take_29 : decode cX9_take 29 = .ok (.getfield 37, 3) := by decide +kernel
theorem dX9_take_32 : decode cX9_take 32 = .ok (.iload_n 1, 1) := by decide +kernel
theorem dX9_take_33 : decode cX9_take 33 = .ok (.invokevirtual 124, 3) := by decide +kernel
theorem dX9_take_36 : decode cX9_take 36 = .ok (.invokevirtual 193, 3) := by decide +kernel
theorem dX9_take_39 : decode cX9_take 39 = .ok (.iinc 1 1, 3) := by decide +kernel
theorem dX9_take_42 : decode cX9_take 42 = .ok (.goto (-27), 3) := by decide +kernel
theorem dX9_take_45 : decode cX9_take 45 = .ok (.aload_n 0, 1) := by decide +kernel
theorem dX9_take_46 : decode cX9_take 46 = .ok (.getfield 44, 3) := by decide +kernel
theorem dX9_take_49 : decode cX9_take 49 = .ok (.getfield 203, 3) := by decide +kernel
theorem dX9_take_52 : decode cX9_take 52 = .ok (.ireturn, 1) := by decide +kernel
theorem dX9_same_0 : decode cX9_same 0 = .ok (.iconst 0, 1) := by decide +kernel
theorem dX9_same_1 : decode cX9_same 1 = .ok (.istore_n 1, 1) := by decide +kernel
theorem dX9_same_2 : decode cX9_same 2 = .ok (.iload_n 1, 1) := by decide +kernel
theorem dX9_same_3 : decode cX9_same 3 = .ok (.aload_n 0, 1) := by decide +kernel
theorem dX9_same_4 : decode cX9_same 4 = .ok (.getfield 12, 3) := by decide +kernel
theorem dX9_same_7 : decode cX9_same 7 = .ok (.getfield 205, 3) := by decide +kernel
theorem dX9_same_10 : decode cX9_same 10 = .ok (.if_icmp .ge 30, 3) := by decide +kernel
theorem dX9_same_13 : decode cX9_same 13 = .ok (.aload_n 0, 1) := by decide +kernel
theorem dX9_same_14 : decode cX9_same 14 = .ok (.getfield 44, 3) := by decide +kernel
theorem dX9_same_17 : decode cX9_same 17 = .ok (.iload_n 1, 1) := by decide +kernel
theorem dX9_same_18 : decode cX9_same 18 = .ok (.invokevirtual 127, 3) := by decide +kernel
theorem dX9_same_21 : decode cX9_same 21 = .ok (.aload_n 0, 1) := by decide +kernel
theorem dX9_same_22 : decode cX9_same 22 = .ok (.getfield 37, 3) := by decide +kernel
theorem dX9_same_25 : decode cX9_same 25 = .ok (.iload_n 1, 1) := by decide +kernel
theorem dX9_same_26 : decode cX9_same 26 = .ok (.invokevirtual 124, 3) := by decide +kernel
theorem dX9_same_29 : decode cX9_same 29 = .ok (.if_icmp .eq 5, 3) := by decide +kernel
theorem dX9_same_32 : decode cX9_same 32 = .ok (.iconst 0, 1) := by decide +kernel
theorem dX9_same_33 : decode cX9_same 33 = .ok (.ireturn, 1) := by decide +kernel
theorem dX9_same_34 : decode cX9_same 34 = .ok (.iinc 1 1, 3) := by decide +kernel
theorem dX9_same_37 : decode cX9_same 37 = .ok (.goto (-35), 3) := by decide +kernel
theorem dX9_same_40 : decode cX9_same 40 = .ok (.iconst 1, 1) := by decide +kernel
theorem dX9_same_41 : decode cX9_same 41 = .ok (.ireturn, 1) := by decide +kernel
theorem dX9_mirror_0 : decode cX9_mirror 0 = .ok (.iload_n 1, 1) := by decide +kernel
theorem dX9_mirror_1 : decode cX9_mirror 1 = .ok (.iload_n 2, 1) := by decide +kernel
theorem dX9_mirror_2 : decode cX9_mirror 2 = .ok (.invokestatic 68, 3) := by decide +kernel
theorem dX9_mirror_5 : decode cX9_mirror 5 = .ok (.ifCond .eq 18, 3) := by decide +kernel
theorem dX9_mirror_8 : decode cX9_mirror 8 = .ok (.aload_n 0, 1) := by decide +kernel
theorem dX9_mirror_9 : decode cX9_mirror 9 = .ok (.getfield 44, 3) := by decide +kernel
theorem dX9_mirror_12 : decode cX9_mirror 12 = .ok (.iload_n 1, 1) := by decide +kernel
theorem dX9_mirror_13 : decode cX9_mirror 13 = .ok (.iload_n 2, 1) := by decide +kernel
theorem dX9_mirror_14 : decode cX9_mirror 14 = .ok (.invokevirtual 208, 3) := by decide +kernel
theorem dX9_mirror_17 : decode cX9_mirror 17 = .ok (.invokestatic 117, 3) := by decide +kernel
theorem dX9_mirror_20 : decode cX9_mirror 20 = .ok (.goto 5, 3) := by decide +kernel
theorem dX9_mirror_23 : decode cX9_mirror 23 = .ok (.bipush (-2), 2) := by decide +kernel
theorem dX9_mirror_25 : decode cX9_mirror 25 = .ok (.ireturn, 1) := by decide +kernel
theorem dX9_mirrors_0 : decode cX9_mirrors 0 = .ok (.iconst 0, 1) := by decide +kernel
theorem dX9_mirrors_1 : decode cX9_mirrors 1 = .ok (.istore_n 1, 1) := by decide +kernel
theorem dX9_mirrors_2 : decode cX9_mirrors 2 = .ok (.iconst 0, 1) := by decide +kernel
theorem dX9_mirrors_3 : decode cX9_mirrors 3 = .ok (.istore_n 2, 1) := by decide +kernel
theorem dX9_mirrors_4 : decode cX9_mirrors 4 = .ok (.iload_n 2, 1) := by decide +kernel
theorem dX9_mirrors_5 : decode cX9_mirrors 5 = .ok (.iconst 4, 1) := by decide +kernel
theorem dX9_mirrors_6 : decode cX9_mirrors 6 = .ok (.if_icmp .ge 39, 3) := by decide +kernel
theorem dX9_mirrors_9 : decode cX9_mirrors 9 = .ok (.bipush (-24), 2) := by decide +kernel
theorem dX9_mirrors_11 : decode cX9_mirrors 11 = .ok (.istore_n 3, 1) := by decide +kernel
theorem dX9_mirrors_12 : decode cX9_mirrors 12 = .ok (.iload_n 3, 1) := by decide +kernel
theorem dX9_mirrors_13 : decode cX9_mirrors 13 = .ok (.bipush 48, 2) := by decide +kernel
theorem dX9_mirrors_15 : decode cX9_mirrors 15 = .ok (.if_icmp .gt 24, 3) := by decide +kernel
theorem dX9_mirrors_18 : decode cX9_mirrors 18 = .ok (.iload_n 1, 1) := by decide +kernel
theorem dX9_mirrors_19 : decode cX9_mirrors 19 = .ok (.aload_n 0, 1) := by decide +kernel
theorem dX9_mirrors_20 : decode cX9_mirrors 20 = .ok (.getfield 44, 3) := by decide +kernel
theorem dX9_mirrors_23 : decode cX9_mirrors 23 = .ok (.iload_n 2, 1) := by decide +kernel
theorem dX9_mirrors_24 : decode cX9_mirrors 24 = .ok (.iload_n 3, 1) := by decide +kernel
theorem dX9_mirrors_25 : decode cX9_mirrors 25 = .ok (.invokevirtual 208, 3) := by decide +kernel
theorem dX9_mirrors_28 : decode cX9_mirrors 28 = .ok (.invokestatic 117, 3) := by decide +kernel
theorem dX9_mirrors_31 : decode cX9_mirrors 31 = .ok (.iadd, 1) := by decide +kernel
theorem dX9_mirrors_32 : decode cX9_mirrors 32 = .ok (.istore_n 1, 1) := by decide +kernel
theorem dX9_mirrors_33 : decode cX9_mirrors 33 = .ok (.iinc 3 1, 3) := by decide +kernel
theorem dX9_mirrors_36 : decode cX9_mirrors 36 = .ok (.goto (-24), 3) := by decide +kernel
theorem dX9_mirrors_39 : decode cX9_mirrors 39 = .ok (.iinc 2 1, 3) := by decide +kernel
theorem dX9_mirrors_42 : decode cX9_mirrors 42 = .ok (.goto (-38), 3) := by decide +kernel
theorem dX9_mirrors_45 : decode cX9_mirrors 45 = .ok (.iload_n 1, 1) := by decide +kernel
theorem dX9_mirrors_46 : decode cX9_mirrors 46 = .ok (.ireturn, 1) := by decide +kernel
theorem dX9_fewest_0 : decode cX9_fewest 0 = .ok (.iload_n 1, 1) := by decide +kernel
theorem dX9_fewest_1 : decode cX9_fewest 1 = .ok (.invokestatic 211, 3) := by decide +kernel
theorem dX9_fewest_4 : decode cX9_fewest 4 = .ok (.ifCond .eq 14, 3) := by decide +kernel
theorem dX9_fewest_7 : decode cX9_fewest 7 = .ok (.aload_n 0, 1) := by decide +kernel
theorem dX9_fewest_8 : decode cX9_fewest 8 = .ok (.getfield 53, 3) := by decide +kernel
theorem dX9_fewest_11 : decode cX9_fewest 11 = .ok (.iload_n 1, 1) := by decide +kernel
theorem dX9_fewest_12 : decode cX9_fewest 12 = .ok (.invokevirtual 214, 3) := by decide +kernel
theorem dX9_fewest_15 : decode cX9_fewest 15 = .ok (.goto 5, 3) := by decide +kernel
theorem dX9_fewest_18 : decode cX9_fewest 18 = .ok (.bipush (-2), 2) := by decide +kernel
theorem dX9_fewest_20 : decode cX9_fewest 20 = .ok (.ireturn, 1) := by decide +kernel
theorem dX9_way_0 : decode cX9_way 0 = .ok (.iload_n 1, 1) := by decide +kernel
theorem dX9_way_1 : decode cX9_way 1 = .ok (.invokestatic 211, 3) := by decide +kernel
theorem dX9_way_4 : decode cX9_way 4 = .ok (.ifCond .ne 6, 3) := by decide +kernel
theorem dX9_way_7 : decode cX9_way 7 = .ok (.bipush (-2), 2) := by decide +kernel
theorem dX9_way_9 : decode cX9_way 9 = .ok (.ireturn, 1) := by decide +kernel
theorem dX9_way_10 : decode cX9_way 10 = .ok (.aload_n 0, 1) := by decide +kernel
theorem dX9_way_11 : decode cX9_way 11 = .ok (.getfield 53, 3) := by decide +kernel
theorem dX9_way_14 : decode cX9_way 14 = .ok (.iload_n 1, 1) := by decide +kernel
theorem dX9_way_15 : decode cX9_way 15 = .ok (.invokevirtual 214, 3) := by decide +kernel
theorem dX9_way_18 : decode cX9_way 18 = .ok (.istore_n 3, 1) := by decide +kernel
theorem dX9_way_19 : decode cX9_way 19 = .ok (.iload_n 3, 1) := by decide +kernel
theorem dX9_way_20 : decode cX9_way 20 = .ok (.ifCond .ge 7, 3) := by decide +kernel
theorem dX9_way_23 : decode cX9_way 23 = .ok (.iload_n 3, 1) := by decide +kernel
theorem dX9_way_24 : decode cX9_way 24 = .ok (.goto 12, 3) := by decide +kernel
theorem dX9_way_27 : decode cX9_way 27 = .ok (.aload_n 0, 1) := by decide +kernel
theorem dX9_way_28 : decode cX9_way 28 = .ok (.getfield 53, 3) := by decide +kernel
theorem dX9_way_31 : decode cX9_way 31 = .ok (.iload_n 2, 1) := by decide +kernel
theorem dX9_way_32 : decode cX9_way 32 = .ok (.iload_n 3, 1) := by decide +kernel
theorem dX9_way_33 : decode cX9_way 33 = .ok (.invokevirtual 217, 3) := by decide +kernel
theorem dX9_way_36 : decode cX9_way 36 = .ok (.ireturn, 1) := by decide +kernel
theorem dX9_ways_0 : decode cX9_ways 0 = .ok (.iload_n 1, 1) := by decide +kernel
theorem dX9_ways_1 : decode cX9_ways 1 = .ok (.invokestatic 211, 3) := by decide +kernel
theorem dX9_ways_4 : decode cX9_ways 4 = .ok (.ifCond .ne 6, 3) := by decide +kernel
theorem dX9_ways_7 : decode cX9_ways 7 = .ok (.bipush (-2), 2) := by decide +kernel
theorem dX9_ways_9 : decode cX9_ways 9 = .ok (.ireturn, 1) := by decide +kernel
theorem dX9_ways_10 : decode cX9_ways 10 = .ok (.aload_n 0, 1) := by decide +kernel
theorem dX9_ways_11 : decode cX9_ways 11 = .ok (.getfield 53, 3) := by decide +kernel
theorem dX9_ways_14 : decode cX9_ways 14 = .ok (.iload_n 1, 1) := by decide +kernel
theorem dX9_ways_15 : decode cX9_ways 15 = .ok (.invokevirtual 214, 3) := by decide +kernel
theorem dX9_ways_18 : decode cX9_ways 18 = .ok (.istore_n 2, 1) := by decide +kernel
theorem dX9_ways_19 : decode cX9_ways 19 = .ok (.iload_n 2, 1) := by decide +kernel
theorem dX9_ways_20 : decode cX9_ways 20 = .ok (.ldc 220, 2) := by decide +kernel
theorem dX9_ways_22 : decode cX9_ways 22 = .ok (.if_icmp .ne 5, 3) := by decide +kernel
theorem dX9_ways_25 : decode cX9_ways 25 = .ok (.iconst 0, 1) := by decide +kernel
theorem dX9_ways_26 : decode cX9_ways 26 = .ok (.ireturn, 1) := by decide +kernel
theorem dX9_ways_27 : decode cX9_ways 27 = .ok (.iload_n 2, 1) := by decide +kernel
theorem dX9_ways_28 : decode cX9_ways 28 = .ok (.ifCond .ge 7, 3) := by decide +kernel
theorem dX9_ways_31 : decode cX9_ways 31 = .ok (.iload_n 2, 1) := by decide +kernel
theorem dX9_ways_32 : decode cX9_ways 32 = .ok (.goto 10, 3) := by decide +kernel
theorem dX9_ways_35 : decode cX9_ways 35 = .ok (.aload_n 0, 1) := by decide +kernel
theorem dX9_ways_36 : decode cX9_ways 36 = .ok (.getfield 53, 3) := by decide +kernel
theorem dX9_ways_39 : decode cX9_ways 39 = .ok (.getfield 221, 3) := by decide +kernel
theorem dX9_ways_42 : decode cX9_ways 42 = .ok (.ireturn, 1) := by decide +kernel
theorem dX9_count_0 : decode cX9_count 0 = .ok (.iload_n 1, 1) := by decide +kernel
theorem dX9_count_1 : decode cX9_count 1 = .ok (.tableswitch 75 0 4 #[35, 43, 51, 59, 67], 35) := by decide +kernel
theorem dX9_count_36 : decode cX9_count 36 = .ok (.aload_n 0, 1) := by decide +kernel
theorem dX9_count_37 : decode cX9_count 37 = .ok (.getfield 12, 3) := by decide +kernel
theorem dX9_count_40 : decode cX9_count 40 = .ok (.getfield 205, 3) := by decide +kernel
theorem dX9_count_43 : decode cX9_count 43 = .ok (.ireturn, 1) := by decide +kernel
theorem dX9_count_44 : decode cX9_count 44 = .ok (.aload_n 0, 1) := by decide +kernel
theorem dX9_count_45 : decode cX9_count 45 = .ok (.getfield 37, 3) := by decide +kernel
theorem dX9_count_48 : decode cX9_count 48 = .ok (.getfield 179, 3) := by decide +kernel
theorem dX9_count_51 : decode cX9_count 51 = .ok (.ireturn, 1) := by decide +kernel
theorem dX9_count_52 : decode cX9_count 52 = .ok (.aload_n 0, 1) := by decide +kernel
theorem dX9_count_53 : decode cX9_count 53 = .ok (.getfield 44, 3) := by decide +kernel
theorem dX9_count_56 : decode cX9_count 56 = .ok (.getfield 203, 3) := by decide +kernel
theorem dX9_count_59 : decode cX9_count 59 = .ok (.ireturn, 1) := by decide +kernel
theorem dX9_count_60 : decode cX9_count 60 = .ok (.aload_n 0, 1) := by decide +kernel
theorem dX9_count_61 : decode cX9_count 61 = .ok (.getfield 21, 3) := by decide +kernel
theorem dX9_count_64 : decode cX9_count 64 = .ok (.invokevirtual 224, 3) := by decide +kernel
theorem dX9_count_67 : decode cX9_count 67 = .ok (.ireturn, 1) := by decide +kernel
theorem dX9_count_68 : decode cX9_count 68 = .ok (.aload_n 0, 1) := by decide +kernel
theorem dX9_count_69 : decode cX9_count 69 = .ok (.getfield 12, 3) := by decide +kernel
theorem dX9_count_72 : decode cX9_count 72 = .ok (.getfield 65, 3) := by decide +kernel
theorem dX9_count_75 : decode cX9_count 75 = .ok (.ireturn, 1) := by decide +kernel
theorem dX9_count_76 : decode cX9_count 76 = .ok (.bipush (-2), 2) := by decide +kernel
theorem dX9_count_78 : decode cX9_count 78 = .ok (.ireturn, 1) := by decide +kernel
theorem dX9_begin_0 : decode cX9_begin 0 = .ok (.aload_n 0, 1) := by decide +kernel
theorem dX9_begin_1 : decode cX9_begin 1 = .ok (.getfield 12, 3) := by decide +kernel
theorem dX9_begin_4 : decode cX9_begin 4 = .ok (.iload_n 1, 1) := by decide +kernel
theorem dX9_begin_5 : decode cX9_begin 5 = .ok (.invokevirtual 227, 3) := by decide +kernel
theorem dX9_begin_8 : decode cX9_begin 8 = .ok (.aload_n 0, 1) := by decide +kernel
theorem dX9_begin_9 : decode cX9_begin 9 = .ok (.getfield 21, 3) := by decide +kernel
theorem dX9_begin_12 : decode cX9_begin 12 = .ok (.invokevirtual 230, 3) := by decide +kernel
theorem dX9_begin_15 : decode cX9_begin 15 = .ok (.aload_n 0, 1) := by decide +kernel
theorem dX9_begin_16 : decode cX9_begin 16 = .ok (.getfield 37, 3) := by decide +kernel
theorem dX9_begin_19 : decode cX9_begin 19 = .ok (.invokevirtual 233, 3) := by decide +kernel
theorem dX9_begin_22 : decode cX9_begin 22 = .ok (.aload_n 0, 1) := by decide +kernel
theorem dX9_begin_23 : decode cX9_begin 23 = .ok (.getfield 44, 3) := by decide +kernel
theorem dX9_begin_26 : decode cX9_begin 26 = .ok (.invokevirtual 236, 3) := by decide +kernel
theorem dX9_begin_29 : decode cX9_begin 29 = .ok (.aload_n 0, 1) := by decide +kernel
theorem dX9_begin_30 : decode cX9_begin 30 = .ok (.getfield 53, 3) := by decide +kernel
theorem dX9_begin_33 : decode cX9_begin 33 = .ok (.invokevirtual 239, 3) := by decide +kernel
theorem dX9_begin_36 : decode cX9_begin 36 = .ok (.return_, 1) := by decide +kernel
theorem dX9_draw_0 : decode cX9_draw 0 = .ok (.aload_n 0, 1) := by decide +kernel
theorem dX9_draw_1 : decode cX9_draw 1 = .ok (.getfield 44, 3) := by decide +kernel
theorem dX9_draw_4 : decode cX9_draw 4 = .ok (.iload_n 1, 1) := by decide +kernel
theorem dX9_draw_5 : decode cX9_draw 5 = .ok (.invokevirtual 127, 3) := by decide +kernel
theorem dX9_draw_8 : decode cX9_draw 8 = .ok (.iload_n 2, 1) := by decide +kernel
theorem dX9_draw_9 : decode cX9_draw 9 = .ok (.if_icmp .eq 19, 3) := by decide +kernel
theorem dX9_draw_12 : decode cX9_draw 12 = .ok (.aload_n 0, 1) := by decide +kernel
theorem dX9_draw_13 : decode cX9_draw 13 = .ok (.getfield 44, 3) := by decide +kernel
theorem dX9_draw_16 : decode cX9_draw 16 = .ok (.iload_n 1, 1) := by decide +kernel
theorem dX9_draw_17 : decode cX9_draw 17 = .ok (.iload_n 2, 1) := by decide +kernel
theorem dX9_draw_18 : decode cX9_draw 18 = .ok (.invokevirtual 242, 3) := by decide +kernel
theorem dX9_draw_21 : decode cX9_draw 21 = .ok (.aload_n 0, 1) := by decide +kernel
theorem dX9_draw_22 : decode cX9_draw 22 = .ok (.getfield 53, 3) := by decide +kernel
theorem dX9_draw_25 : decode cX9_draw 25 = .ok (.invokevirtual 239, 3) := by decide +kernel
theorem dX9_draw_28 : decode cX9_draw 28 = .ok (.return_, 1) := by decide +kernel
theorem dX9_yes_0 : decode cX9_yes 0 = .ok (.iload_n 0, 1) := by decide +kernel
theorem dX9_yes_1 : decode cX9_yes 1 = .ok (.ifCond .eq 7, 3) := by decide +kernel
theorem dX9_yes_4 : decode cX9_yes 4 = .ok (.iconst 1, 1) := by decide +kernel
theorem dX9_yes_5 : decode cX9_yes 5 = .ok (.goto 4, 3) := by decide +kernel
theorem dX9_yes_8 : decode cX9_yes 8 = .ok (.iconst 0, 1) := by decide +kernel
theorem dX9_yes_9 : decode cX9_yes 9 = .ok (.ireturn, 1) := by decide +kernel
theorem dX9_isEdge_0 : decode cX9_isEdge 0 = .ok (.iload_n 0, 1) := by decide +kernel
theorem dX9_isEdge_1 : decode cX9_isEdge 1 = .ok (.ifCond .lt 12, 3) := by decide +kernel
theorem dX9_isEdge_4 : decode cX9_isEdge 4 = .ok (.iload_n 0, 1) := by decide +kernel
theorem dX9_isEdge_5 : decode cX9_isEdge 5 = .ok (.iconst 2, 1) := by decide +kernel
theorem dX9_isEdge_6 : decode cX9_isEdge 6 = .ok (.if_icmp .gt 7, 3) := by decide +kernel
theorem dX9_isEdge_9 : decode cX9_isEdge 9 = .ok (.iconst 1, 1) := by decide +kernel
theorem dX9_isEdge_10 : decode cX9_isEdge 10 = .ok (.goto 4, 3) := by decide +kernel
theorem dX9_isEdge_13 : decode cX9_isEdge 13 = .ok (.iconst 0, 1) := by decide +kernel
theorem dX9_isEdge_14 : decode cX9_isEdge 14 = .ok (.ireturn, 1) := by decide +kernel
theorem dX9_isWayLength_0 : decode cX9_isWayLength 0 = .ok (.iload_n 0, 1) := by decide +kernel
theorem dX9_isWayLength_1 : decode cX9_isWayLength 1 = .ok (.ifCond .lt 12, 3) := by decide +kernel
theorem dX9_isWayLength_4 : decode cX9_isWayLength 4 = .ok (.iload_n 0, 1) := by decide +kernel
theorem dX9_isWayLength_5 : decode cX9_isWayLength 5 = .ok (.iconst 3, 1) := by decide +kernel
theorem dX9_isWayLength_6 : decode cX9_isWayLength 6 = .ok (.if_icmp .gt 7, 3) := by decide +kernel
theorem dX9_isWayLength_9 : decode cX9_isWayLength 9 = .ok (.iconst 1, 1) := by decide +kernel
theorem dX9_isWayLength_10 : decode cX9_isWayLength 10 = .ok (.goto 4, 3) := by decide +kernel
theorem dX9_isWayLength_13 : decode cX9_isWayLength 13 = .ok (.iconst 0, 1) := by decide +kernel
theorem dX9_isWayLength_14 : decode cX9_isWayLength 14 = .ok (.ireturn, 1) := by decide +kernel
theorem dX10_init_0 : decode cX10_init 0 = .ok (.aload_n 0, 1) := by decide +kernel
theorem dX10_init_1 : decode cX10_init 1 = .ok (.invokespecial 1, 3) := by decide +kernel
theorem dX10_init_4 : decode cX10_init 4 = .ok (.aload_n 0, 1) := by decide +kernel
theorem dX10_init_5 : decode cX10_init 5 = .ok (.iconst 4, 1) := by decide +kernel
theorem dX10_init_6 : decode cX10_init 6 = .ok (.putfield 7, 3) := by decide +kernel
theorem dX10_init_9 : decode cX10_init 9 = .ok (.aload_n 0, 1) := by decide +kernel
theorem dX10_init_10 : decode cX10_init 10 = .ok (.sipush 144, 3) := by decide +kernel
theorem dX10_init_13 : decode cX10_init 13 = .ok (.newarray .int, 2) := by decide +kernel
theorem dX10_init_15 : decode cX10_init 15 = .ok (.putfield 13, 3) := by decide +kernel
theorem dX10_init_18 : decode cX10_init 18 = .ok (.aload_n 0, 1) := by decide +kernel
theorem dX10_init_19 : decode cX10_init 19 = .ok (.sipush 144, 3) := by decide +kernel
theorem dX10_init_22 : decode cX10_init 22 = .ok (.newarray .int, 2) := by decide +kernel
theorem dX10_init_24 : decode cX10_init 24 = .ok (.putfield 17, 3) := by decide +kernel
theorem dX10_init_27 : decode cX10_init 27 = .ok (.aload_n 0, 1) := by decide +kernel
theorem dX10_init_28 : decode cX10_init 28 = .ok (.sipush 144, 3) := by decide +kernel
theorem dX10_init_31 : decode cX10_init 31 = .ok (.newarray .int, 2) := by decide +kernel
theorem dX10_init_33 : decode cX10_init 33 = .ok (.putfield 20, 3) := by decide +kernel
theorem dX10_init_36 : decode cX10_init 36 = .ok (.aload_n 0, 1) := by decide +kernel
theorem dX10_init_37 : decode cX10_init 37 = .ok (.sipush 144, 3) := by decide +kernel
theorem dX10_init_40 : decode cX10_init 40 = .ok (.newarray .int, 2) := by decide +kernel
theorem dX10_init_42 : decode cX10_init 42 = .ok (.putfield 23, 3) := by decide +kernel
theorem dX10_init_45 : decode cX10_init 45 = .ok (.aload_n 0, 1) := by decide +kernel
theorem dX10_init_46 : decode cX10_init 46 = .ok (.sipush 144, 3) := by decide +kernel
theorem dX10_init_49 : decode cX10_init 49 = .ok (.newarray .boolean, 2) := by decide +kernel
theorem dX10_init_51 : decode cX10_init 51 = .ok (.putfield 26, 3) := by decide +kernel
theorem dX10_init_54 : decode cX10_init 54 = .ok (.aload_n 0, 1) := by decide +kernel
theorem dX10_init_55 : decode cX10_init 55 = .ok (.sipush 432, 3) := by decide +kernel
theorem dX10_init_58 : decode cX10_init 58 = .ok (.newarray .int, 2) := by decide +kernel
theorem dX10_init_60 : decode cX10_init 60 = .ok (.putfield 30, 3) := by decide +kernel
theorem dX10_init_63 : decode cX10_init 63 = .ok (.aload_n 0, 1) := by decide +kernel
theorem dX10_init_64 : decode cX10_init 64 = .ok (.sipush 1152, 3) := by decide +kernel
theorem dX10_init_67 : decode cX10_init 67 = .ok (.newarray .int, 2) := by decide +kernel
theorem dX10_init_69 : decode cX10_init 69 = .ok (.putfield 33, 3) := by decide +kernel
theorem dX10_init_72 : decode cX10_init 72 = .ok (.aload_n 0, 1) := by decide +kernel
theorem dX10_init_73 : decode cX10_init 73 = .ok (.sipush 1152, 3) := by decide +kernel
theorem dX10_init_76 : decode cX10_init 76 = .ok (.newarray .int, 2) := by decide +kernel
theorem dX10_init_78 : decode cX10_init 78 = .ok (.putfield 36, 3) := by decide +kernel
theorem dX10_init_81 : decode cX10_init 81 = .ok (.aload_n 0, 1) := by decide +kernel
theorem dX10_init_82 : decode cX10_init 82 = .ok (.sipush 1152, 3) := by decide +kernel
theorem dX10_init_85 : decode cX10_init 85 = .ok (.newarray .int, 2) := by decide +kernel
theorem dX10_init_87 : decode cX10_init 87 = .ok (.putfield 39, 3) := by decide +kernel
theorem dX10_init_90 : decode cX10_init 90 = .ok (.aload_n 0, 1) := by decide +kernel
theorem dX10_init_91 : decode cX10_init 91 = .ok (.sipush 1152, 3) := by decide +kernel
theorem dX10_init_94 : decode cX10_init 94 = .ok (.newarray .int, 2) := by decide +kernel
theorem dX10_init_96 : decode cX10_init 96 = .ok (.putfield 42, 3) := by decide +kernel
theorem dX10_init_99 : decode cX10_init 99 = .ok (.aload_n 0, 1) := by decide +kernel
theorem dX10_init_100 : decode cX10_init 100 = .ok (.sipush 1152, 3) := by decide +kernel
theorem dX10_init_103 : decode cX10_init 103 = .ok (.newarray .boolean, 2) := by decide +kernel
theorem dX10_init_105 : decode cX10_init 105 = .ok (.putfield 45, 3) := by decide +kernel
theorem dX10_init_108 : decode cX10_init 108 = .ok (.aload_n 0, 1) := by decide +kernel
theorem dX10_init_109 : decode cX10_init 109 = .ok (.sipush 3456, 3) := by decide +kernel
theorem dX10_init_112 : decode cX10_init 112 = .ok (.newarray .int, 2) := by decide +kernel
theorem dX10_init_114 : decode cX10_init 114 = .ok (.putfield 48, 3) := by decide +kernel
theorem dX10_init_117 : decode cX10_init 117 = .ok (.aload_n 0, 1) := by decide +kernel
theorem dX10_init_118 : decode cX10_init 118 = .ok (.sipush 144, 3) := by decide +kernel
theorem dX10_init_121 : decode cX10_init 121 = .ok (.newarray .boolean, 2) := by decide +kernel
theorem dX10_init_123 : decode cX10_init 123 = .ok (.putfield 51, 3) := by decide +kernel
theorem dX10_init_126 : decode cX10_init 126 = .ok (.aload_n 0, 1) := by decide +kernel
theorem dX10_init_127 : decode cX10_init 127 = .ok (.sipush 144, 3) := by decide +kernel
theorem dX10_init_130 : decode cX10_init 130 = .ok (.putfield 54, 3) := by decide +kernel
theorem dX10_init_133 : decode cX10_init 133 = .ok (.aload_n 0, 1) := by decide +kernel
theorem dX10_init_134 : decode cX10_init 134 = .ok (.sipush 144, 3) := by decide +kernel
theorem dX10_init_137 : decode cX10_init 137 = .ok (.newarray .boolean, 2) := by decide +kernel
theorem dX10_init_139 : decode cX10_init 139 = .ok (.putfield 57, 3) := by decide +kernel
theorem dX10_init_142 : decode cX10_init 142 = .ok (.aload_n 0, 1) := by decide +kernel
theorem dX10_init_143 : decode cX10_init 143 = .ok (.sipush 144, 3) := by decide +kernel
theorem dX10_init_146 : decode cX10_init 146 = .ok (.newarray .boolean, 2) := by decide +kernel
theorem dX10_init_148 : decode cX10_init 148 = .ok (.putfield 60, 3) := by decide +kernel
theorem dX10_init_151 : decode cX10_init 151 = .ok (.aload_n 0, 1) := by decide +kernel
theorem dX10_init_152 : decode cX10_init 152 = .ok (.sipush 144, 3) := by decide +kernel
theorem dX10_init_155 : decode cX10_init 155 = .ok (.newarray .int, 2) := by decide +kernel
theorem dX10_init_157 : decode cX10_init 157 = .ok (.putfield 63, 3) := by decide +kernel
theorem dX10_init_160 : decode cX10_init 160 = .ok (.aload_n 0, 1) := by decide +kernel
theorem dX10_init_161 : decode cX10_init 161 = .ok (.sipush 576, 3) := by decide +kernel
theorem dX10_init_164 : decode cX10_init 164 = .ok (.newarray .int, 2) := by decide +kernel
theorem dX10_init_166 : decode cX10_init 166 = .ok (.putfield 66, 3) := by decide +kernel
theorem dX10_init_169 : decode cX10_init 169 = .ok (.aload_n 0, 1) := by decide +kernel
theorem dX10_init_170 : decode cX10_init 170 = .ok (.sipush 576, 3) := by decide +kernel
theorem dX10_init_173 : decode cX10_init 173 = .ok (.newarray .int, 2) := by decide +kernel
theorem dX10_init_175 : decode cX10_init 175 = .ok (.putfield 69, 3) := by decide +kernel
theorem dX10_init_178 : decode cX10_init 178 = .ok (.aload_n 0, 1) := by decide +kernel
theorem dX10_init_179 : decode cX10_init 179 = .ok (.sipush 576, 3) := by decide +kernel
theorem dX10_init_182 : decode cX10_init 182 = .ok (.newarray .int, 2) := by decide +kernel
theorem dX10_init_184 : decode cX10_init 184 = .ok (.putfield 72, 3) := by decide +kernel
theorem dX10_init_187 : decode cX10_init 187 = .ok (.aload_n 0, 1) := by decide +kernel
theorem dX10_init_188 : decode cX10_init 188 = .ok (.sipush 16384, 3) := by decide +kernel
theorem dX10_init_191 : decode cX10_init 191 = .ok (.newarray .int, 2) := by decide +kernel
theorem dX10_init_193 : decode cX10_init 193 = .ok (.putfield 75, 3) := by decide +kernel
theorem dX10_init_196 : decode cX10_init 196 = .ok (.aload_n 0, 1) := by decide +kernel
theorem dX10_init_197 : decode cX10_init 197 = .ok (.bipush 16, 2) := by decide +kernel
theorem dX10_init_199 : decode cX10_init 199 = .ok (.newarray .int, 2) := by decide +kernel
theorem dX10_init_201 : decode cX10_init 201 = .ok (.putfield 78, 3) := by decide +kernel
theorem dX10_init_204 : decode cX10_init 204 = .ok (.aload_n 0, 1) := by decide +kernel
theorem dX10_init_205 : decode cX10_init 205 = .ok (.bipush 16, 2) := by decide +kernel
theorem dX10_init_207 : decode cX10_init 207 = .ok (.newarray .int, 2) := by decide +kernel
theorem dX10_init_209 : decode cX10_init 209 = .ok (.putfield 81, 3) := by decide +kernel
theorem dX10_init_212 : decode cX10_init 212 = .ok (.aload_n 0, 1) := by decide +kernel
theorem dX10_init_213 : decode cX10_init 213 = .ok (.iconst 4, 1) := by decide +kernel
theorem dX10_init_214 : decode cX10_init 214 = .ok (.newarray .int, 2) := by decide +kernel
theorem dX10_init_216 : decode cX10_init 216 = .ok (.putfield 84, 3) := by decide +kernel
theorem dX10_init_219 : decode cX10_init 219 = .ok (.aload_n 0, 1) := by decide +kernel
theorem dX10_init_220 : decode cX10_init 220 = .ok (.iconst 4, 1) := by decide +kernel
theorem dX10_init_221 : decode cX10_init 221 = .ok (.newarray .int, 2) := by decide +kernel
theorem dX10_init_223 : decode cX10_init 223 = .ok (.putfield 87, 3) := by decide +kernel
theorem dX10_init_226 : decode cX10_init 226 = .ok (.aload_n 0, 1) := by decide +kernel
theorem dX10_init_227 : decode cX10_init 227 = .ok (.iconst 4, 1) := by decide +kernel
theorem dX10_init_228 : decode cX10_init 228 = .ok (.invokevirtual 90, 3) := by decide +kernel
theorem dX10_init_231 : decode cX10_init 231 = .ok (.return_, 1) := by decide +kernel
theorem dX10_in_0 : decode cX10_in 0 = .ok (.lload_n 0, 1) := by decide +kernel
theorem dX10_in_1 : decode cX10_in 1 = .ok (.lload_n 2, 1) := by decide +kernel
theorem dX10_in_2 : decode cX10_in 2 = .ok (.lcmp, 1) := by decide +kernel
theorem dX10_in_3 : decode cX10_in 3 = .ok (.ifCond .lt 14, 3) := by decide +kernel
theorem dX10_in_6 : decode cX10_in 6 = .ok (.lload_n 0, 1) := by decide +kernel
theorem dX10_in_7 : decode cX10_in 7 = .ok (.lload 4, 2) := by decide +kernel
theorem dX10_in_9 : decode cX10_in 9 = .ok (.lcmp, 1) := by decide +kernel
theorem dX10_in_10 : decode cX10_in 10 = .ok (.ifCond .gt 7, 3) := by decide +kernel
theorem dX10_in_13 : decode cX10_in 13 = .ok (.iconst 1, 1) := by decide +kernel
theorem dX10_in_14 : decode cX10_in 14 = .ok (.goto 4, 3) := by decide +kernel
theorem dX10_in_17 : decode cX10_in 17 = .ok (.iconst 0, 1) := by decide +kernel
theorem dX10_in_18 : decode cX10_in 18 = .ok (.ireturn, 1) := by decide +kernel
theorem dX10_facets_0 : decode cX10_facets 0 = .ok (.iconst 4, 1) := by decide +kernel
theorem dX10_facets_1 : decode cX10_facets 1 = .ok (.aload_n 0, 1) := by decide +kernel
theorem dX10_facets_2 : decode cX10_facets 2 = .ok (.getfield 7, 3) := by decide +kernel
theorem dX10_facets_5 : decode cX10_facets 5 = .ok (.imul, 1) := by decide +kernel
theorem dX10_facets_6 : decode cX10_facets 6 = .ok (.aload_n 0, 1) := by decide +kernel
theorem dX10_facets_7 : decode cX10_facets 7 = .ok (.getfield 7, 3) := by decide +kernel
theorem dX10_facets_10 : decode cX10_facets 10 = .ok (.imul, 1) := by decide +kernel
theorem dX10_facets_11 : decode cX10_facets 11 = .ok (.ireturn, 1) := by decide +kernel
theorem dX10_noFacet_0 : decode cX10_noFacet 0 = .ok (.iload_n 1, 1) := by decide +kernel
theorem dX10_noFacet_1 : decode cX10_noFacet 1 = .ok (.i2l, 1) := by decide +kernel
theorem dX10_noFacet_2 : decode cX10_noFacet 2 = .ok (.lconst 0, 1) := by decide +kernel
theorem dX10_noFacet_3 : decode cX10_noFacet 3 = .ok (.aload_n 0, 1) := by decide +kernel
theorem dX10_noFacet_4 : decode cX10_noFacet 4 = .ok (.invokevirtual 97, 3) := by decide +kernel
theorem dX10_noFacet_7 : decode cX10_noFacet 7 = .ok (.iconst 1, 1) := by decide +kernel
theorem dX10_noFacet_8 : decode cX10_noFacet 8 = .ok (.isub, 1) := by decide +kernel
theorem dX10_noFacet_9 : decode cX10_noFacet 9 = .ok (.i2l, 1) := by decide +kernel
theorem dX10_noFacet_10 : decode cX10_noFacet 10 = .ok (.invokestatic 101, 3) := by decide +kernel
theorem dX10_noFacet_13 : decode cX10_noFacet 13 = .ok (.ifCond .ne 7, 3) := by decide +kernel
theorem dX10_noFacet_16 : decode cX10_noFacet 16 = .ok (.iconst 1, 1) := by decide +kernel
theorem dX10_noFacet_17 : decode cX10_noFacet 17 = .ok (.goto 4, 3) := by decide +kernel
theorem dX10_noFacet_20 : decode cX10_noFacet 20 = .ok (.iconst 0, 1) := by decide +kernel
theorem dX10_noFacet_21 : decode cX10_noFacet 21 = .ok (.ireturn, 1) := by decide +kernel
theorem dX10_noLine_0 : decode cX10_noLine 0 = .ok (.iload_n 0, 1) := by decide +kernel
theorem dX10_noLine_1 : decode cX10_noLine 1 = .ok (.i2l, 1) := by decide +kernel
theorem dX10_noLine_2 : decode cX10_noLine 2 = .ok (.lconst 0, 1) := by decide +kernel
theorem dX10_noLine_3 : decode cX10_noLine 3 = .ok (.ldc2_w 105, 3) := by decide +kernel
theorem dX10_noLine_6 : decode cX10_noLine 6 = .ok (.invokestatic 101, 3) := by decide +kernel
theorem dX10_noLine_9 : decode cX10_noLine 9 = .ok (.ifCond .eq 17, 3) := by decide +kernel
theorem dX10_noLine_12 : decode cX10_noLine 12 = .ok (.iload_n 1, 1) := by decide +kernel
theorem dX10_noLine_13 : decode cX10_noLine 13 = .ok (.i2l, 1) := by decide +kernel
theorem dX10_noLine_14 : decode cX10_noLine 14 = .ok (.ldc2_w 107, 3) := by decide +kernel
theorem dX10_noLine_17 : decode cX10_noLine 17 = .ok (.ldc2_w 109, 3) := by decide +kernel
theorem dX10_noLine_20 : decode cX10_noLine 20 = .ok (.invokestatic 101, 3) := by decide +kernel
theorem dX10_noLine_23 : decode cX10_noLine 23 = .ok (.ifCond .ne 7, 3) := by decide +kernel
theorem dX10_noLine_26 : decode cX10_noLine 26 = .ok (.iconst 1, 1) := by decide +kernel
theorem dX10_noLine_27 : decode cX10_noLine 27 = .ok (.goto 4, 3) := by decide +kernel
theorem dX10_noLine_30 : decode cX10_noLine 30 = .ok (.iconst 0, 1) := by decide +kernel
theorem dX10_noLine_31 : decode cX10_noLine 31 = .ok (.ireturn, 1) := by decide +kernel
theorem dX10_begin_0 : decode cX10_begin 0 = .ok (.aload_n 0, 1) := by decide +kernel
theorem dX10_begin_1 : decode cX10_begin 1 = .ok (.iload_n 1, 1) := by decide +kernel
theorem dX10_begin_2 : decode cX10_begin 2 = .ok (.putfield 7, 3) := by decide +kernel
theorem dX10_begin_5 : decode cX10_begin 5 = .ok (.iconst 0, 1) := by decide +kernel
theorem dX10_begin_6 : decode cX10_begin 6 = .ok (.istore_n 2, 1) := by decide +kernel
theorem dX10_begin_7 : decode cX10_begin 7 = .ok (.iload_n 2, 1) := by decide +kernel
theorem dX10_begin_8 : decode cX10_begin 8 = .ok (.aload_n 0, 1) := by decide +kernel
theorem dX10_begin_9 : decode cX10_begin 9 = .ok (.invokevirtual 97, 3) := by decide +kernel
theorem dX10_begin_12 : decode cX10_begin 12 = .ok (.if_icmp .ge 98, 3) := by decide +kernel
theorem dX10_begin_15 : decode cX10_begin 15 = .ok (.aload_n 0, 1) := by decide +kernel
theorem dX10_begin_16 : decode cX10_begin 16 = .ok (.getfield 13, 3) := by decide +kernel
theorem dX10_begin_19 : decode cX10_begin 19 = .ok (.iload_n 2, 1) := by decide +kernel
theorem dX10_begin_20 : decode cX10_begin 20 = .ok (.iload_n 2, 1) := by decide +kernel
theorem dX10_begin_21 : decode cX10_begin 21 = .ok (.iconst 4, 1) := by decide +kernel
theorem dX10_begin_22 : decode cX10_begin 22 = .ok (.idiv, 1) := by decide +kernel
theorem dX10_begin_23 : decode cX10_begin 23 = .ok (.aload_n 0, 1) := by decide +kernel
theorem dX10_begin_24 : decode cX10_begin 24 = .ok (.getfield 7, 3) := by decide +kernel
theorem dX10_begin_27 : decode cX10_begin 27 = .ok (.irem, 1) := by decide +kernel
theorem dX10_begin_28 : decode cX10_begin 28 = .ok (.iastore, 1) := by decide +kernel
theorem dX10_begin_29 : decode cX10_begin 29 = .ok (.aload_n 0, 1) := by decide +kernel
theorem dX10_begin_30 : decode cX10_begin 30 = .ok (.getfield 17, 3) := by decide +kernel
theorem dX10_begin_33 : decode cX10_begin 33 = .ok (.iload_n 2, 1) := by decide +kernel
theorem dX10_begin_34 : decode cX10_begin 34 = .ok (.iload_n 2, 1) := by decide +kernel
theorem dX10_begin_35 : decode cX10_begin 35 = .ok (.iconst 4, 1) := by decide +kernel
theorem dX10_begin_36 : decode cX10_begin 36 = .ok (.idiv, 1) := by decide +kernel
theorem dX10_begin_37 : decode cX10_begin 37 = .ok (.aload_n 0, 1) := by decide +kernel
theorem dX10_begin_38 : decode cX10_begin 38 = .ok (.getfield 7, 3) := by decide +kernel
theorem dX10_begin_41 : decode cX10_begin 41 = .ok (.idiv, 1) := by decide +kernel
theorem dX10_begin_42 : decode cX10_begin 42 = .ok (.iastore, 1) := by decide +kernel
theorem dX10_begin_43 : decode cX10_begin 43 = .ok (.aload_n 0, 1) := by decide +kernel
theorem dX10_begin_44 : decode cX10_begin 44 = .ok (.getfield 20, 3) := by decide +kernel
theorem dX10_begin_47 : decode cX10_begin 47 = .ok (.iload_n 2, 1) := by decide +kernel
theorem dX10_begin_48 : decode cX10_begin 48 = .ok (.iload_n 2, 1) := by decide +kernel
theorem dX10_begin_49 : decode cX10_begin 49 = .ok (.iconst 4, 1) := by decide +kernel
theorem dX10_begin_50 : decode cX10_begin 50 = .ok (.irem, 1) := by decide +kernel
theorem dX10_begin_51 : decode cX10_begin 51 = .ok (.iastore, 1) := by decide +kernel
theorem dX10_begin_52 : decode cX10_begin 52 = .ok (.aload_n 0, 1) := by decide +kernel
theorem dX10_begin_53 : decode cX10_begin 53 = .ok (.getfield 23, 3) := by decide +kernel
theorem dX10_begin_56 : decode cX10_begin 56 = .ok (.iload_n 2, 1) := by decide +kernel
theorem dX10_begin_57 : decode cX10_begin 57 = .ok (.iconst 0, 1) := by decide +kernel
theorem dX10_begin_58 : decode cX10_begin 58 = .ok (.iastore, 1) := by decide +kernel
theorem dX10_begin_59 : decode cX10_begin 59 = .ok (.aload_n 0, 1) := by decide +kernel
theorem dX10_begin_60 : decode cX10_begin 60 = .ok (.getfield 26, 3) := by decide +kernel
theorem dX10_begin_63 : decode cX10_begin 63 = .ok (.iload_n 2, 1) := by decide +kernel
theorem dX10_begin_64 : decode cX10_begin 64 = .ok (.iconst 1, 1) := by decide +kernel
theorem dX10_begin_65 : decode cX10_begin 65 = .ok (.bastore, 1) := by decide +kernel
theorem dX10_begin_66 : decode cX10_begin 66 = .ok (.aload_n 0, 1) := by decide +kernel
theorem dX10_begin_67 : decode cX10_begin 67 = .ok (.getfield 57, 3) := by decide +kernel
theorem dX10_begin_70 : decode cX10_begin 70 = .ok (.iload_n 2, 1) := by decide +kernel
theorem dX10_begin_71 : decode cX10_begin 71 = .ok (.iconst 0, 1) := by decide +kernel
theorem dX10_begin_72 : decode cX10_begin 72 = .ok (.bastore, 1) := by decide +kernel
theorem dX10_begin_73 : decode cX10_begin 73 = .ok (.aload_n 0, 1) := by decide +kernel
theorem dX10_begin_74 : decode cX10_begin 74 = .ok (.getfield 60, 3) := by decide +kernel
theorem dX10_begin_77 : decode cX10_begin 77 = .ok (.iload_n 2, 1) := by decide +kernel
theorem dX10_begin_78 : decode cX10_begin 78 = .ok (.iconst 0, 1) := by decide +kernel
theorem dX10_begin_79 : decode cX10_begin 79 = .ok (.bastore, 1) := by decide +kernel
theorem dX10_begin_80 : decode cX10_begin 80 = .ok (.iconst 0, 1) := by decide +kernel
theorem dX10_begin_81 : decode cX10_begin 81 = .ok (.istore_n 3, 1) := by decide +kernel
theorem dX10_begin_82 : decode cX10_begin 82 = .ok (.iload_n 3, 1) := by decide +kernel
theorem dX10_begin_83 : decode cX10_begin 83 = .ok (.iconst 3, 1) := by decide +kernel
theorem dX10_begin_84 : decode cX10_begin 84 = .ok (.if_icmp .ge 20, 3) := by decide +kernel
theorem dX10_begin_87 : decode cX10_begin 87 = .ok (.aload_n 0, 1) := by decide +kernel
theorem dX10_begin_88 : decode cX10_begin 88 = .ok (.getfield 30, 3) := by decide +kernel
theorem dX10_begin_91 : decode cX10_begin 91 = .ok (.iconst 3, 1) := by decide +kernel
theorem dX10_begin_92 : decode cX10_begin 92 = .ok (.iload_n 2, 1) := by decide +kernel
theorem dX10_begin_93 : decode cX10_begin 93 = .ok (.imul, 1) := by decide +kernel
theorem dX10_begin_94 : decode cX10_begin 94 = .ok (.iload_n 3, 1) := by decide +kernel
theorem dX10_begin_95 : decode cX10_begin 95 = .ok (.iadd, 1) := by decide +kernel
theorem dX10_begin_96 : decode cX10_begin 96 = .ok (.iconst 0, 1) := by decide +kernel
theorem dX10_begin_97 : decode cX10_begin 97 = .ok (.iastore, 1) := by decide +kernel
theorem dX10_begin_98 : decode cX10_begin 98 = .ok (.iinc 3 1, 3) := by decide +kernel
theorem dX10_begin_101 : decode cX10_begin 101 = .ok (.goto (-19), 3) := by decide +kernel
theorem dX10_begin_104 : decode cX10_begin 104 = .ok (.iinc 2 1, 3) := by decide +kernel
theorem dX10_begin_107 : decode cX10_begin 107 = .ok (.goto (-100), 3) := by decide +kernel
theorem dX10_begin_110 : decode cX10_begin 110 = .ok (.aload_n 0, 1) := by decide +kernel
theorem dX10_begin_111 : decode cX10_begin 111 = .ok (.iconst 0, 1) := by decide +kernel
theorem dX10_begin_112 : decode cX10_begin 112 = .ok (.putfield 111, 3) := by decide +kernel
theorem dX10_begin_115 : decode cX10_begin 115 = .ok (.aload_n 0, 1) := by decide +kernel
theorem dX10_begin_116 : decode cX10_begin 116 = .ok (.iconst 0, 1) := by decide +kernel
theorem dX10_begin_117 : decode cX10_begin 117 = .ok (.putfield 114, 3) := by decide +kernel
theorem dX10_begin_120 : decode cX10_begin 120 = .ok (.return_, 1) := by decide +kernel
theorem dX10_along_0 : decode cX10_along 0 = .ok (.iload_n 3, 1) := by decide +kernel
theorem dX10_along_1 : decode cX10_along 1 = .ok (.iconst 1, 1) := by decide +kernel
theorem dX10_along_2 : decode cX10_along 2 = .ok (.if_icmp .ne 7, 3) := by decide +kernel
theorem dX10_along_5 : decode cX10_along 5 = .ok (.iconst 2, 1) := by decide +kernel
theorem dX10_along_6 : decode cX10_along 6 = .ok (.goto 14, 3) := by decide +kernel
theorem dX10_along_9 : decode cX10_along 9 = .ok (.iload_n 3, 1) := by decide +kernel
theorem dX10_along_10 : decode cX10_along 10 = .ok (.iconst 3, 1) := by decide +kernel
theorem dX10_along_11 : decode cX10_along 11 = .ok (.if_icmp .ne 8, 3) := by decide +kernel
theorem dX10_along_14 : decode cX10_along 14 = .ok (.bipush (-2), 2) := by decide +kernel
theorem dX10_along_16 : decode cX10_along 16 = .ok (.goto 4, 3) := by decide +kernel
theorem dX10_along_19 : decode cX10_along 19 = .ok (.iconst 0, 1) := by decide +kernel
theorem dX10_along_20 : decode cX10_along 20 = .ok (.istore 4, 2) := by decide +kernel
theorem dX10_along_22 : decode cX10_along 22 = .ok (.iload_n 3, 1) := by decide +kernel
theorem dX10_along_23 : decode cX10_along 23 = .ok (.ifCond .ne 8, 3) := by decide +kernel
theorem dX10_along_26 : decode cX10_along 26 = .ok (.bipush (-2), 2) := by decide +kernel
theorem dX10_along_28 : decode cX10_along 28 = .ok (.goto 13, 3) := by decide +kernel
theorem dX10_along_31 : decode cX10_along 31 = .ok (.iload_n 3, 1) := by decide +kernel
theorem dX10_along_32 : decode cX10_along 32 = .ok (.iconst 2, 1) := by decide +kernel
theorem dX10_along_33 : decode cX10_along 33 = .ok (.if_icmp .ne 7, 3) := by decide +kernel
theorem dX10_along_36 : decode cX10_along 36 = .ok (.iconst 2, 1) := by decide +kernel
theorem dX10_along_37 : decode cX10_along 37 = .ok (.goto 4, 3) := by decide +kernel
theorem dX10_along_40 : decode cX10_along 40 = .ok (.iconst 0, 1) := by decide +kernel
theorem dX10_along_41 : decode cX10_along 41 = .ok (.istore 5, 2) := by decide +kernel
theorem dX10_along_43 : decode cX10_along 43 = .ok (.bipush 6, 2) := by decide +kernel
theorem dX10_along_45 : decode cX10_along 45 = .ok (.iload_n 1, 1) := by decide +kernel
theorem dX10_along_46 : decode cX10_along 46 = .ok (.imul, 1) := by decide +kernel
theorem dX10_along_47 : decode cX10_along 47 = .ok (.iconst 3, 1) := by decide +kernel
theorem dX10_along_48 : decode cX10_along 48 = .ok (.iadd, 1) := by decide +kernel
theorem dX10_along_49 : decode cX10_along 49 = .ok (.iload 4, 2) := by decide +kernel
theorem dX10_along_51 : decode cX10_along 51 = .ok (.iadd, 1) := by decide +kernel
theorem dX10_along_52 : decode cX10_along 52 = .ok (.istore 6, 2) := by decide +kernel
theorem dX10_along_54 : decode cX10_along 54 = .ok (.bipush 6, 2) := by decide +kernel
theorem dX10_along_56 : decode cX10_along 56 = .ok (.iload_n 2, 1) := by decide +kernel
theorem dX10_along_57 : decode cX10_along 57 = .ok (.imul, 1) := by decide +kernel
theorem dX10_along_58 : decode cX10_along 58 = .ok (.iconst 3, 1) := by decide +kernel
theorem dX10_along_59 : decode cX10_along 59 = .ok (.iadd, 1) := by decide +kernel
theorem dX10_along_60 : decode cX10_along 60 = .ok (.iload 5, 2) := by decide +kernel
theorem dX10_along_62 : decode cX10_along 62 = .ok (.iadd, 1) := by decide +kernel
theorem dX10_along_63 : decode cX10_along 63 = .ok (.istore 7, 2) := by decide +kernel
theorem dX10_along_65 : decode cX10_along 65 = .ok (.iload_n 0, 1) := by decide +kernel
theorem dX10_along_66 : decode cX10_along 66 = .ok (.ifCond .ne 8, 3) := by decide +kernel
theorem dX10_along_69 : decode cX10_along 69 = .ok (.iload 6, 2) := by decide +kernel
theorem dX10_along_71 : decode cX10_along 71 = .ok (.goto 31, 3) := by decide +kernel
theorem dX10_along_74 : decode cX10_along 74 = .ok (.iload_n 0, 1) := by decide +kernel
theorem dX10_along_75 : decode cX10_along 75 = .ok (.iconst 1, 1) := by decide +kernel
theorem dX10_along_76 : decode cX10_along 76 = .ok (.if_icmp .ne 8, 3) := by decide +kernel
theorem dX10_along_79 : decode cX10_along 79 = .ok (.iload 7, 2) := by decide +kernel
theorem dX10_along_81 : decode cX10_along 81 = .ok (.goto 21, 3) := by decide +kernel
theorem dX10_along_84 : decode cX10_along 84 = .ok (.iload_n 0, 1) := by decide +kernel
theorem dX10_along_85 : decode cX10_along 85 = .ok (.iconst 2, 1) := by decide +kernel
theorem dX10_along_86 : decode cX10_along 86 = .ok (.if_icmp .ne 11, 3) := by decide +kernel
theorem dX10_along_89 : decode cX10_along 89 = .ok (.iload 6, 2) := by decide +kernel
theorem dX10_along_91 : decode cX10_along 91 = .ok (.iload 7, 2) := by decide +kernel
theorem dX10_along_93 : decode cX10_along 93 = .ok (.isub, 1) := by decide +kernel
theorem dX10_along_94 : decode cX10_along 94 = .ok (.goto 8, 3) := by decide +kernel
theorem dX10_along_97 : decode cX10_along 97 = .ok (.iload 6, 2) := by decide +kernel
theorem dX10_along_99 : decode cX10_along 99 = .ok (.iload 7, 2) := by decide +kernel
theorem dX10_along_101 : decode cX10_along 101 = .ok (.iadd, 1) := by decide +kernel
theorem dX10_along_102 : decode cX10_along 102 = .ok (.ireturn, 1) := by decide +kernel
theorem dX10_sideOf_0 : decode cX10_sideOf 0 = .ok (.iload_n 0, 1) := by decide +kernel
theorem dX10_sideOf_1 : decode cX10_sideOf 1 = .ok (.iload_n 2, 1) := by decide +kernel
theorem dX10_sideOf_2 : decode cX10_sideOf 2 = .ok (.iload_n 3, 1) := by decide +kernel
theorem dX10_sideOf_3 : decode cX10_sideOf 3 = .ok (.iload 4, 2) := by decide +kernel
theorem dX10_sideOf_5 : decode cX10_sideOf 5 = .ok (.invokestatic 118, 3) := by decide +kernel
theorem dX10_sideOf_8 : decode cX10_sideOf 8 = .ok (.bipush 6, 2) := by decide +kernel
theorem dX10_sideOf_10 : decode cX10_sideOf 10 = .ok (.iload_n 1, 1) := by decide +kernel
theorem dX10_sideOf_11 : decode cX10_sideOf 11 = .ok (.imul, 1) := by decide +kernel
theorem dX10_sideOf_12 : decode cX10_sideOf 12 = .ok (.if_icmp .le 7, 3) := by decide +kernel
theorem dX10_sideOf_15 : decode cX10_sideOf 15 = .ok (.iconst 1, 1) := by decide +kernel
theorem dX10_sideOf_16 : decode cX10_sideOf 16 = .ok (.goto 4, 3) := by decide +kernel
theorem dX10_sideOf_19 : decode cX10_sideOf 19 = .ok (.iconst 0, 1) := by decide +kernel
theorem dX10_sideOf_20 : decode cX10_sideOf 20 = .ok (.ireturn, 1) := by decide +kernel
theorem dX10_turn_0 : decode cX10_turn 0 = .ok (.iload_n 1, 1) := by decide +kernel
theorem dX10_turn_1 : decode cX10_turn 1 = .ok (.ifCond .ne 49, 3) := by decide +kernel
theorem dX10_turn_4 : decode cX10_turn 4 = .ok (.aload_n 0, 1) := by decide +kernel
theorem dX10_turn_5 : decode cX10_turn 5 = .ok (.iconst 2, 1) := by decide +kernel
theorem dX10_turn_6 : decode cX10_turn 6 = .ok (.iload_n 2, 1) := by decide +kernel
theorem dX10_turn_7 : decode cX10_turn 7 = .ok (.imul, 1) := by decide +kernel
theorem dX10_turn_8 : decode cX10_turn 8 = .ok (.iconst 1, 1) := by decide +kernel
theorem dX10_turn_9 : decode cX10_turn 9 = .ok (.isub, 1) := by decide +kernel
theorem dX10_turn_10 : decode cX10_turn 10 = .ok (.iload_n 3, 1) := by decide +kernel
theorem dX10_turn_11 : decode cX10_turn 11 = .ok (.isub, 1) := by decide +kernel
theorem dX10_turn_12 : decode cX10_turn 12 = .ok (.putfield 122, 3) := by decide +kernel
theorem dX10_turn_15 : decode cX10_turn 15 = .ok (.aload_n 0, 1) := by decide +kernel
theorem dX10_turn_16 : decode cX10_turn 16 = .ok (.iload 4, 2) := by decide +kernel
theorem dX10_turn_18 : decode cX10_turn 18 = .ok (.putfield 125, 3) := by decide +kernel
theorem dX10_turn_21 : decode cX10_turn 21 = .ok (.aload_n 0, 1) := by decide +kernel
theorem dX10_turn_22 : decode cX10_turn 22 = .ok (.iload 5, 2) := by decide +kernel
theorem dX10_turn_24 : decode cX10_turn 24 = .ok (.iconst 1, 1) := by decide +kernel
theorem dX10_turn_25 : decode cX10_turn 25 = .ok (.if_icmp .ne 7, 3) := by decide +kernel
theorem dX10_turn_28 : decode cX10_turn 28 = .ok (.iconst 3, 1) := by decide +kernel
theorem dX10_turn_29 : decode cX10_turn 29 = .ok (.goto 15, 3) := by decide +kernel
