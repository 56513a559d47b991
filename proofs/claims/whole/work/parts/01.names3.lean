theorem dX10_turn_32 : decode cX10_turn 32 = .ok (.iload 5, 2) := by decide +kernel
theorem dX10_turn_34 : decode cX10_turn 34 = .ok (.iconst 3, 1) := by decide +kernel
theorem dX10_turn_35 : decode cX10_turn 35 = .ok (.if_icmp .ne 7, 3) := by decide +kernel
theorem dX10_turn_38 : decode cX10_turn 38 = .ok (.iconst 1, 1) := by decide +kernel
theorem dX10_turn_39 : decode cX10_turn 39 = .ok (.goto 5, 3) := by decide +kernel
theorem dX10_turn_42 : decode cX10_turn 42 = .ok (.iload 5, 2) := by decide +kernel
theorem dX10_turn_44 : decode cX10_turn 44 = .ok (.putfield 128, 3) := by decide +kernel
theorem dX10_turn_47 : decode cX10_turn 47 = .ok (.goto 137, 3) := by decide +kernel
theorem dX10_turn_50 : decode cX10_turn 50 = .ok (.iload_n 1, 1) := by decide +kernel
theorem dX10_turn_51 : decode cX10_turn 51 = .ok (.iconst 1, 1) := by decide +kernel
theorem dX10_turn_52 : decode cX10_turn 52 = .ok (.if_icmp .ne 48, 3) := by decide +kernel
theorem dX10_turn_55 : decode cX10_turn 55 = .ok (.aload_n 0, 1) := by decide +kernel
theorem dX10_turn_56 : decode cX10_turn 56 = .ok (.iload_n 3, 1) := by decide +kernel
theorem dX10_turn_57 : decode cX10_turn 57 = .ok (.putfield 122, 3) := by decide +kernel
theorem dX10_turn_60 : decode cX10_turn 60 = .ok (.aload_n 0, 1) := by decide +kernel
theorem dX10_turn_61 : decode cX10_turn 61 = .ok (.iconst 2, 1) := by decide +kernel
theorem dX10_turn_62 : decode cX10_turn 62 = .ok (.iload_n 2, 1) := by decide +kernel
theorem dX10_turn_63 : decode cX10_turn 63 = .ok (.imul, 1) := by decide +kernel
theorem dX10_turn_64 : decode cX10_turn 64 = .ok (.iconst 1, 1) := by decide +kernel
theorem dX10_turn_65 : decode cX10_turn 65 = .ok (.isub, 1) := by decide +kernel
theorem dX10_turn_66 : decode cX10_turn 66 = .ok (.iload 4, 2) := by decide +kernel
theorem dX10_turn_68 : decode cX10_turn 68 = .ok (.isub, 1) := by decide +kernel
theorem dX10_turn_69 : decode cX10_turn 69 = .ok (.putfield 125, 3) := by decide +kernel
theorem dX10_turn_72 : decode cX10_turn 72 = .ok (.aload_n 0, 1) := by decide +kernel
theorem dX10_turn_73 : decode cX10_turn 73 = .ok (.iload 5, 2) := by decide +kernel
theorem dX10_turn_75 : decode cX10_turn 75 = .ok (.ifCond .ne 7, 3) := by decide +kernel
theorem dX10_turn_78 : decode cX10_turn 78 = .ok (.iconst 2, 1) := by decide +kernel
theorem dX10_turn_79 : decode cX10_turn 79 = .ok (.goto 15, 3) := by decide +kernel
theorem dX10_turn_82 : decode cX10_turn 82 = .ok (.iload 5, 2) := by decide +kernel
theorem dX10_turn_84 : decode cX10_turn 84 = .ok (.iconst 2, 1) := by decide +kernel
theorem dX10_turn_85 : decode cX10_turn 85 = .ok (.if_icmp .ne 7, 3) := by decide +kernel
theorem dX10_turn_88 : decode cX10_turn 88 = .ok (.iconst 0, 1) := by decide +kernel
theorem dX10_turn_89 : decode cX10_turn 89 = .ok (.goto 5, 3) := by decide +kernel
theorem dX10_turn_92 : decode cX10_turn 92 = .ok (.iload 5, 2) := by decide +kernel
theorem dX10_turn_94 : decode cX10_turn 94 = .ok (.putfield 128, 3) := by decide +kernel
theorem dX10_turn_97 : decode cX10_turn 97 = .ok (.goto 87, 3) := by decide +kernel
theorem dX10_turn_100 : decode cX10_turn 100 = .ok (.iload_n 1, 1) := by decide +kernel
theorem dX10_turn_101 : decode cX10_turn 101 = .ok (.iconst 2, 1) := by decide +kernel
theorem dX10_turn_102 : decode cX10_turn 102 = .ok (.if_icmp .ne 29, 3) := by decide +kernel
theorem dX10_turn_105 : decode cX10_turn 105 = .ok (.aload_n 0, 1) := by decide +kernel
theorem dX10_turn_106 : decode cX10_turn 106 = .ok (.iload 4, 2) := by decide +kernel
theorem dX10_turn_108 : decode cX10_turn 108 = .ok (.iload_n 2, 1) := by decide +kernel
theorem dX10_turn_109 : decode cX10_turn 109 = .ok (.iadd, 1) := by decide +kernel
theorem dX10_turn_110 : decode cX10_turn 110 = .ok (.putfield 122, 3) := by decide +kernel
theorem dX10_turn_113 : decode cX10_turn 113 = .ok (.aload_n 0, 1) := by decide +kernel
theorem dX10_turn_114 : decode cX10_turn 114 = .ok (.iload_n 3, 1) := by decide +kernel
theorem dX10_turn_115 : decode cX10_turn 115 = .ok (.iload_n 2, 1) := by decide +kernel
theorem dX10_turn_116 : decode cX10_turn 116 = .ok (.isub, 1) := by decide +kernel
theorem dX10_turn_117 : decode cX10_turn 117 = .ok (.putfield 125, 3) := by decide +kernel
theorem dX10_turn_120 : decode cX10_turn 120 = .ok (.aload_n 0, 1) := by decide +kernel
theorem dX10_turn_121 : decode cX10_turn 121 = .ok (.iconst 3, 1) := by decide +kernel
theorem dX10_turn_122 : decode cX10_turn 122 = .ok (.iload 5, 2) := by decide +kernel
theorem dX10_turn_124 : decode cX10_turn 124 = .ok (.isub, 1) := by decide +kernel
theorem dX10_turn_125 : decode cX10_turn 125 = .ok (.putfield 128, 3) := by decide +kernel
theorem dX10_turn_128 : decode cX10_turn 128 = .ok (.goto 56, 3) := by decide +kernel
theorem dX10_turn_131 : decode cX10_turn 131 = .ok (.aload_n 0, 1) := by decide +kernel
theorem dX10_turn_132 : decode cX10_turn 132 = .ok (.iload_n 2, 1) := by decide +kernel
theorem dX10_turn_133 : decode cX10_turn 133 = .ok (.iconst 1, 1) := by decide +kernel
theorem dX10_turn_134 : decode cX10_turn 134 = .ok (.isub, 1) := by decide +kernel
theorem dX10_turn_135 : decode cX10_turn 135 = .ok (.iload 4, 2) := by decide +kernel
theorem dX10_turn_137 : decode cX10_turn 137 = .ok (.isub, 1) := by decide +kernel
theorem dX10_turn_138 : decode cX10_turn 138 = .ok (.putfield 122, 3) := by decide +kernel
theorem dX10_turn_141 : decode cX10_turn 141 = .ok (.aload_n 0, 1) := by decide +kernel
theorem dX10_turn_142 : decode cX10_turn 142 = .ok (.iload_n 2, 1) := by decide +kernel
theorem dX10_turn_143 : decode cX10_turn 143 = .ok (.iconst 1, 1) := by decide +kernel
theorem dX10_turn_144 : decode cX10_turn 144 = .ok (.isub, 1) := by decide +kernel
theorem dX10_turn_145 : decode cX10_turn 145 = .ok (.iload_n 3, 1) := by decide +kernel
theorem dX10_turn_146 : decode cX10_turn 146 = .ok (.isub, 1) := by decide +kernel
theorem dX10_turn_147 : decode cX10_turn 147 = .ok (.putfield 125, 3) := by decide +kernel
theorem dX10_turn_150 : decode cX10_turn 150 = .ok (.aload_n 0, 1) := by decide +kernel
theorem dX10_turn_151 : decode cX10_turn 151 = .ok (.iload 5, 2) := by decide +kernel
theorem dX10_turn_153 : decode cX10_turn 153 = .ok (.ifCond .ne 7, 3) := by decide +kernel
theorem dX10_turn_156 : decode cX10_turn 156 = .ok (.iconst 1, 1) := by decide +kernel
theorem dX10_turn_157 : decode cX10_turn 157 = .ok (.goto 24, 3) := by decide +kernel
theorem dX10_turn_160 : decode cX10_turn 160 = .ok (.iload 5, 2) := by decide +kernel
theorem dX10_turn_162 : decode cX10_turn 162 = .ok (.iconst 1, 1) := by decide +kernel
theorem dX10_turn_163 : decode cX10_turn 163 = .ok (.if_icmp .ne 7, 3) := by decide +kernel
theorem dX10_turn_166 : decode cX10_turn 166 = .ok (.iconst 0, 1) := by decide +kernel
theorem dX10_turn_167 : decode cX10_turn 167 = .ok (.goto 14, 3) := by decide +kernel
theorem dX10_turn_170 : decode cX10_turn 170 = .ok (.iload 5, 2) := by decide +kernel
theorem dX10_turn_172 : decode cX10_turn 172 = .ok (.iconst 2, 1) := by decide +kernel
theorem dX10_turn_173 : decode cX10_turn 173 = .ok (.if_icmp .ne 7, 3) := by decide +kernel
theorem dX10_turn_176 : decode cX10_turn 176 = .ok (.iconst 3, 1) := by decide +kernel
theorem dX10_turn_177 : decode cX10_turn 177 = .ok (.goto 4, 3) := by decide +kernel
theorem dX10_turn_180 : decode cX10_turn 180 = .ok (.iconst 2, 1) := by decide +kernel
theorem dX10_turn_181 : decode cX10_turn 181 = .ok (.putfield 128, 3) := by decide +kernel
theorem dX10_turn_184 : decode cX10_turn 184 = .ok (.return_, 1) := by decide +kernel
theorem dX10_isThere_0 : decode cX10_isThere 0 = .ok (.aload_n 0, 1) := by decide +kernel
theorem dX10_isThere_1 : decode cX10_isThere 1 = .ok (.getfield 13, 3) := by decide +kernel
theorem dX10_isThere_4 : decode cX10_isThere 4 = .ok (.iload_n 1, 1) := by decide +kernel
theorem dX10_isThere_5 : decode cX10_isThere 5 = .ok (.iaload, 1) := by decide +kernel
theorem dX10_isThere_6 : decode cX10_isThere 6 = .ok (.iload_n 2, 1) := by decide +kernel
theorem dX10_isThere_7 : decode cX10_isThere 7 = .ok (.if_icmp .ne 28, 3) := by decide +kernel
theorem dX10_isThere_10 : decode cX10_isThere 10 = .ok (.aload_n 0, 1) := by decide +kernel
theorem dX10_isThere_11 : decode cX10_isThere 11 = .ok (.getfield 17, 3) := by decide +kernel
theorem dX10_isThere_14 : decode cX10_isThere 14 = .ok (.iload_n 1, 1) := by decide +kernel
theorem dX10_isThere_15 : decode cX10_isThere 15 = .ok (.iaload, 1) := by decide +kernel
theorem dX10_isThere_16 : decode cX10_isThere 16 = .ok (.iload_n 3, 1) := by decide +kernel
theorem dX10_isThere_17 : decode cX10_isThere 17 = .ok (.if_icmp .ne 18, 3) := by decide +kernel
theorem dX10_isThere_20 : decode cX10_isThere 20 = .ok (.aload_n 0, 1) := by decide +kernel
theorem dX10_isThere_21 : decode cX10_isThere 21 = .ok (.getfield 20, 3) := by decide +kernel
theorem dX10_isThere_24 : decode cX10_isThere 24 = .ok (.iload_n 1, 1) := by decide +kernel
theorem dX10_isThere_25 : decode cX10_isThere 25 = .ok (.iaload, 1) := by decide +kernel
theorem dX10_isThere_26 : decode cX10_isThere 26 = .ok (.iload 4, 2) := by decide +kernel
theorem dX10_isThere_28 : decode cX10_isThere 28 = .ok (.if_icmp .ne 7, 3) := by decide +kernel
theorem dX10_isThere_31 : decode cX10_isThere 31 = .ok (.iconst 1, 1) := by decide +kernel
theorem dX10_isThere_32 : decode cX10_isThere 32 = .ok (.goto 4, 3) := by decide +kernel
theorem dX10_isThere_35 : decode cX10_isThere 35 = .ok (.iconst 0, 1) := by decide +kernel
theorem dX10_isThere_36 : decode cX10_isThere 36 = .ok (.ireturn, 1) := by decide +kernel
theorem dX10_deepOf_0 : decode cX10_deepOf 0 = .ok (.iconst 0, 1) := by decide +kernel
theorem dX10_deepOf_1 : decode cX10_deepOf 1 = .ok (.istore 4, 2) := by decide +kernel
theorem dX10_deepOf_3 : decode cX10_deepOf 3 = .ok (.iconst 0, 1) := by decide +kernel
theorem dX10_deepOf_4 : decode cX10_deepOf 4 = .ok (.istore 5, 2) := by decide +kernel
theorem dX10_deepOf_6 : decode cX10_deepOf 6 = .ok (.iload 5, 2) := by decide +kernel
theorem dX10_deepOf_8 : decode cX10_deepOf 8 = .ok (.aload_n 0, 1) := by decide +kernel
theorem dX10_deepOf_9 : decode cX10_deepOf 9 = .ok (.invokevirtual 97, 3) := by decide +kernel
theorem dX10_deepOf_12 : decode cX10_deepOf 12 = .ok (.if_icmp .ge 31, 3) := by decide +kernel
theorem dX10_deepOf_15 : decode cX10_deepOf 15 = .ok (.iload 4, 2) := by decide +kernel
theorem dX10_deepOf_17 : decode cX10_deepOf 17 = .ok (.aload_n 0, 1) := by decide +kernel
theorem dX10_deepOf_18 : decode cX10_deepOf 18 = .ok (.iload 5, 2) := by decide +kernel
theorem dX10_deepOf_20 : decode cX10_deepOf 20 = .ok (.iload_n 1, 1) := by decide +kernel
theorem dX10_deepOf_21 : decode cX10_deepOf 21 = .ok (.iload_n 2, 1) := by decide +kernel
theorem dX10_deepOf_22 : decode cX10_deepOf 22 = .ok (.iload_n 3, 1) := by decide +kernel
theorem dX10_deepOf_23 : decode cX10_deepOf 23 = .ok (.invokevirtual 131, 3) := by decide +kernel
theorem dX10_deepOf_26 : decode cX10_deepOf 26 = .ok (.ifCond .eq 7, 3) := by decide +kernel
theorem dX10_deepOf_29 : decode cX10_deepOf 29 = .ok (.iconst 1, 1) := by decide +kernel
theorem dX10_deepOf_30 : decode cX10_deepOf 30 = .ok (.goto 4, 3) := by decide +kernel
theorem dX10_deepOf_33 : decode cX10_deepOf 33 = .ok (.iconst 0, 1) := by decide +kernel
theorem dX10_deepOf_34 : decode cX10_deepOf 34 = .ok (.iadd, 1) := by decide +kernel
theorem dX10_deepOf_35 : decode cX10_deepOf 35 = .ok (.istore 4, 2) := by decide +kernel
theorem dX10_deepOf_37 : decode cX10_deepOf 37 = .ok (.iinc 5 1, 3) := by decide +kernel
theorem dX10_deepOf_40 : decode cX10_deepOf 40 = .ok (.goto (-34), 3) := by decide +kernel
theorem dX10_deepOf_43 : decode cX10_deepOf 43 = .ok (.iload 4, 2) := by decide +kernel
theorem dX10_deepOf_45 : decode cX10_deepOf 45 = .ok (.ireturn, 1) := by decide +kernel
theorem dX10_placesOf_0 : decode cX10_placesOf 0 = .ok (.iconst 0, 1) := by decide +kernel
theorem dX10_placesOf_1 : decode cX10_placesOf 1 = .ok (.istore_n 1, 1) := by decide +kernel
theorem dX10_placesOf_2 : decode cX10_placesOf 2 = .ok (.iconst 0, 1) := by decide +kernel
theorem dX10_placesOf_3 : decode cX10_placesOf 3 = .ok (.istore_n 2, 1) := by decide +kernel
theorem dX10_placesOf_4 : decode cX10_placesOf 4 = .ok (.iload_n 2, 1) := by decide +kernel
theorem dX10_placesOf_5 : decode cX10_placesOf 5 = .ok (.aload_n 0, 1) := by decide +kernel
theorem dX10_placesOf_6 : decode cX10_placesOf 6 = .ok (.invokevirtual 97, 3) := by decide +kernel
theorem dX10_placesOf_9 : decode cX10_placesOf 9 = .ok (.if_icmp .ge 26, 3) := by decide +kernel
theorem dX10_placesOf_12 : decode cX10_placesOf 12 = .ok (.iload_n 1, 1) := by decide +kernel
theorem dX10_placesOf_13 : decode cX10_placesOf 13 = .ok (.aload_n 0, 1) := by decide +kernel
theorem dX10_placesOf_14 : decode cX10_placesOf 14 = .ok (.getfield 23, 3) := by decide +kernel
theorem dX10_placesOf_17 : decode cX10_placesOf 17 = .ok (.iload_n 2, 1) := by decide +kernel
theorem dX10_placesOf_18 : decode cX10_placesOf 18 = .ok (.iaload, 1) := by decide +kernel
theorem dX10_placesOf_19 : decode cX10_placesOf 19 = .ok (.ifCond .ne 7, 3) := by decide +kernel
theorem dX10_placesOf_22 : decode cX10_placesOf 22 = .ok (.iconst 1, 1) := by decide +kernel
theorem dX10_placesOf_23 : decode cX10_placesOf 23 = .ok (.goto 4, 3) := by decide +kernel
theorem dX10_placesOf_26 : decode cX10_placesOf 26 = .ok (.iconst 0, 1) := by decide +kernel
theorem dX10_placesOf_27 : decode cX10_placesOf 27 = .ok (.iadd, 1) := by decide +kernel
theorem dX10_placesOf_28 : decode cX10_placesOf 28 = .ok (.istore_n 1, 1) := by decide +kernel
theorem dX10_placesOf_29 : decode cX10_placesOf 29 = .ok (.iinc 2 1, 3) := by decide +kernel
theorem dX10_placesOf_32 : decode cX10_placesOf 32 = .ok (.goto (-28), 3) := by decide +kernel
theorem dX10_placesOf_35 : decode cX10_placesOf 35 = .ok (.iload_n 1, 1) := by decide +kernel
theorem dX10_placesOf_36 : decode cX10_placesOf 36 = .ok (.ireturn, 1) := by decide +kernel
theorem dX10_nextTo_0 : decode cX10_nextTo 0 = .ok (.iload_n 1, 1) := by decide +kernel
theorem dX10_nextTo_1 : decode cX10_nextTo 1 = .ok (.iconst 4, 1) := by decide +kernel
theorem dX10_nextTo_2 : decode cX10_nextTo 2 = .ok (.irem, 1) := by decide +kernel
theorem dX10_nextTo_3 : decode cX10_nextTo 3 = .ok (.istore_n 3, 1) := by decide +kernel
theorem dX10_nextTo_4 : decode cX10_nextTo 4 = .ok (.iload_n 2, 1) := by decide +kernel
theorem dX10_nextTo_5 : decode cX10_nextTo 5 = .ok (.ifCond .le 24, 3) := by decide +kernel
theorem dX10_nextTo_8 : decode cX10_nextTo 8 = .ok (.iload_n 1, 1) := by decide +kernel
theorem dX10_nextTo_9 : decode cX10_nextTo 9 = .ok (.iload_n 3, 1) := by decide +kernel
theorem dX10_nextTo_10 : decode cX10_nextTo 10 = .ok (.isub, 1) := by decide +kernel
theorem dX10_nextTo_11 : decode cX10_nextTo 11 = .ok (.iload_n 2, 1) := by decide +kernel
theorem dX10_nextTo_12 : decode cX10_nextTo 12 = .ok (.iconst 1, 1) := by decide +kernel
theorem dX10_nextTo_13 : decode cX10_nextTo 13 = .ok (.if_icmp .ne 9, 3) := by decide +kernel
theorem dX10_nextTo_16 : decode cX10_nextTo 16 = .ok (.iload_n 3, 1) := by decide +kernel
theorem dX10_nextTo_17 : decode cX10_nextTo 17 = .ok (.iconst 1, 1) := by decide +kernel
theorem dX10_nextTo_18 : decode cX10_nextTo 18 = .ok (.iadd, 1) := by decide +kernel
theorem dX10_nextTo_19 : decode cX10_nextTo 19 = .ok (.goto 6, 3) := by decide +kernel
theorem dX10_nextTo_22 : decode cX10_nextTo 22 = .ok (.iload_n 3, 1) := by decide +kernel
theorem dX10_nextTo_23 : decode cX10_nextTo 23 = .ok (.iconst 3, 1) := by decide +kernel
theorem dX10_nextTo_24 : decode cX10_nextTo 24 = .ok (.iadd, 1) := by decide +kernel
theorem dX10_nextTo_25 : decode cX10_nextTo 25 = .ok (.iconst 4, 1) := by decide +kernel
theorem dX10_nextTo_26 : decode cX10_nextTo 26 = .ok (.irem, 1) := by decide +kernel
theorem dX10_nextTo_27 : decode cX10_nextTo 27 = .ok (.iadd, 1) := by decide +kernel
theorem dX10_nextTo_28 : decode cX10_nextTo 28 = .ok (.ireturn, 1) := by decide +kernel
theorem dX10_nextTo_29 : decode cX10_nextTo 29 = .ok (.iload_n 1, 1) := by decide +kernel
theorem dX10_nextTo_30 : decode cX10_nextTo 30 = .ok (.iconst 4, 1) := by decide +kernel
theorem dX10_nextTo_31 : decode cX10_nextTo 31 = .ok (.idiv, 1) := by decide +kernel
theorem dX10_nextTo_32 : decode cX10_nextTo 32 = .ok (.aload_n 0, 1) := by decide +kernel
theorem dX10_nextTo_33 : decode cX10_nextTo 33 = .ok (.getfield 7, 3) := by decide +kernel
theorem dX10_nextTo_36 : decode cX10_nextTo 36 = .ok (.irem, 1) := by decide +kernel
theorem dX10_nextTo_37 : decode cX10_nextTo 37 = .ok (.iload_n 3, 1) := by decide +kernel
theorem dX10_nextTo_38 : decode cX10_nextTo 38 = .ok (.iconst 1, 1) := by decide +kernel
theorem dX10_nextTo_39 : decode cX10_nextTo 39 = .ok (.if_icmp .ne 7, 3) := by decide +kernel
theorem dX10_nextTo_42 : decode cX10_nextTo 42 = .ok (.iconst 1, 1) := by decide +kernel
theorem dX10_nextTo_43 : decode cX10_nextTo 43 = .ok (.goto 13, 3) := by decide +kernel
theorem dX10_nextTo_46 : decode cX10_nextTo 46 = .ok (.iload_n 3, 1) := by decide +kernel
theorem dX10_nextTo_47 : decode cX10_nextTo 47 = .ok (.iconst 3, 1) := by decide +kernel
theorem dX10_nextTo_48 : decode cX10_nextTo 48 = .ok (.if_icmp .ne 7, 3) := by decide +kernel
theorem dX10_nextTo_51 : decode cX10_nextTo 51 = .ok (.iconst (-1), 1) := by decide +kernel
theorem dX10_nextTo_52 : decode cX10_nextTo 52 = .ok (.goto 4, 3) := by decide +kernel
theorem dX10_nextTo_55 : decode cX10_nextTo 55 = .ok (.iconst 0, 1) := by decide +kernel
theorem dX10_nextTo_56 : decode cX10_nextTo 56 = .ok (.iadd, 1) := by decide +kernel
theorem dX10_nextTo_57 : decode cX10_nextTo 57 = .ok (.istore 4, 2) := by decide +kernel
theorem dX10_nextTo_59 : decode cX10_nextTo 59 = .ok (.iload_n 1, 1) := by decide +kernel
theorem dX10_nextTo_60 : decode cX10_nextTo 60 = .ok (.iconst 4, 1) := by decide +kernel
theorem dX10_nextTo_61 : decode cX10_nextTo 61 = .ok (.idiv, 1) := by decide +kernel
theorem dX10_nextTo_62 : decode cX10_nextTo 62 = .ok (.aload_n 0, 1) := by decide +kernel
theorem dX10_nextTo_63 : decode cX10_nextTo 63 = .ok (.getfield 7, 3) := by decide +kernel
theorem dX10_nextTo_66 : decode cX10_nextTo 66 = .ok (.idiv, 1) := by decide +kernel
theorem dX10_nextTo_67 : decode cX10_nextTo 67 = .ok (.iload_n 3, 1) := by decide +kernel
theorem dX10_nextTo_68 : decode cX10_nextTo 68 = .ok (.ifCond .ne 7, 3) := by decide +kernel
theorem dX10_nextTo_71 : decode cX10_nextTo 71 = .ok (.iconst (-1), 1) := by decide +kernel
theorem dX10_nextTo_72 : decode cX10_nextTo 72 = .ok (.goto 13, 3) := by decide +kernel
theorem dX10_nextTo_75 : decode cX10_nextTo 75 = .ok (.iload_n 3, 1) := by decide +kernel
theorem dX10_nextTo_76 : decode cX10_nextTo 76 = .ok (.iconst 2, 1) := by decide +kernel
theorem dX10_nextTo_77 : decode cX10_nextTo 77 = .ok (.if_icmp .ne 7, 3) := by decide +kernel
theorem dX10_nextTo_80 : decode cX10_nextTo 80 = .ok (.iconst 1, 1) := by decide +kernel
theorem dX10_nextTo_81 : decode cX10_nextTo 81 = .ok (.goto 4, 3) := by decide +kernel
theorem dX10_nextTo_84 : decode cX10_nextTo 84 = .ok (.iconst 0, 1) := by decide +kernel
theorem dX10_nextTo_85 : decode cX10_nextTo 85 = .ok (.iadd, 1) := by decide +kernel
theorem dX10_nextTo_86 : decode cX10_nextTo 86 = .ok (.istore 5, 2) := by decide +kernel
theorem dX10_nextTo_88 : decode cX10_nextTo 88 = .ok (.iload 4, 2) := by decide +kernel
theorem dX10_nextTo_90 : decode cX10_nextTo 90 = .ok (.i2l, 1) := by decide +kernel
theorem dX10_nextTo_91 : decode cX10_nextTo 91 = .ok (.lconst 0, 1) := by decide +kernel
theorem dX10_nextTo_92 : decode cX10_nextTo 92 = .ok (.aload_n 0, 1) := by decide +kernel
theorem dX10_nextTo_93 : decode cX10_nextTo 93 = .ok (.getfield 7, 3) := by decide +kernel
theorem dX10_nextTo_96 : decode cX10_nextTo 96 = .ok (.iconst 1, 1) := by decide +kernel
theorem dX10_nextTo_97 : decode cX10_nextTo 97 = .ok (.isub, 1) := by decide +kernel
theorem dX10_nextTo_98 : decode cX10_nextTo 98 = .ok (.i2l, 1) := by decide +kernel
theorem dX10_nextTo_99 : decode cX10_nextTo 99 = .ok (.invokestatic 101, 3) := by decide +kernel
theorem dX10_nextTo_102 : decode cX10_nextTo 102 = .ok (.ifCond .eq 41, 3) := by decide +kernel
theorem dX10_nextTo_105 : decode cX10_nextTo 105 = .ok (.iload 5, 2) := by decide +kernel
theorem dX10_nextTo_107 : decode cX10_nextTo 107 = .ok (.i2l, 1) := by decide +kernel
theorem dX10_nextTo_108 : decode cX10_nextTo 108 = .ok (.lconst 0, 1) := by decide +kernel
theorem dX10_nextTo_109 : decode cX10_nextTo 109 = .ok (.aload_n 0, 1) := by decide +kernel
theorem dX10_nextTo_110 : decode cX10_nextTo 110 = .ok (.getfield 7, 3) := by decide +kernel
theorem dX10_nextTo_113 : decode cX10_nextTo 113 = .ok (.iconst 1, 1) := by decide +kernel
theorem dX10_nextTo_114 : decode cX10_nextTo 114 = .ok (.isub, 1) := by decide +kernel
theorem dX10_nextTo_115 : decode cX10_nextTo 115 = .ok (.i2l, 1) := by decide +kernel
theorem dX10_nextTo_116 : decode cX10_nextTo 116 = .ok (.invokestatic 101, 3) := by decide +kernel
theorem dX10_nextTo_119 : decode cX10_nextTo 119 = .ok (.ifCond .eq 24, 3) := by decide +kernel
theorem dX10_nextTo_122 : decode cX10_nextTo 122 = .ok (.iconst 4, 1) := by decide +kernel
theorem dX10_nextTo_123 : decode cX10_nextTo 123 = .ok (.iload 5, 2) := by decide +kernel
theorem dX10_nextTo_125 : decode cX10_nextTo 125 = .ok (.aload_n 0, 1) := by decide +kernel
theorem dX10_nextTo_126 : decode cX10_nextTo 126 = .ok (.getfield 7, 3) := by decide +kernel
theorem dX10_nextTo_129 : decode cX10_nextTo 129 = .ok (.imul, 1) := by decide +kernel
theorem dX10_nextTo_130 : decode cX10_nextTo 130 = .ok (.iload 4, 2) := by decide +kernel
theorem dX10_nextTo_132 : decode cX10_nextTo 132 = .ok (.iadd, 1) := by decide +kernel
theorem dX10_nextTo_133 : decode cX10_nextTo 133 = .ok (.imul, 1) := by decide +kernel
theorem dX10_nextTo_134 : decode cX10_nextTo 134 = .ok (.iload_n 3, 1) := by decide +kernel
theorem dX10_nextTo_135 : decode cX10_nextTo 135 = .ok (.iconst 2, 1) := by decide +kernel
theorem dX10_nextTo_136 : decode cX10_nextTo 136 = .ok (.iadd, 1) := by decide +kernel
theorem dX10_nextTo_137 : decode cX10_nextTo 137 = .ok (.iconst 4, 1) := by decide +kernel
theorem dX10_nextTo_138 : decode cX10_nextTo 138 = .ok (.irem, 1) := by decide +kernel
theorem dX10_nextTo_139 : decode cX10_nextTo 139 = .ok (.iadd, 1) := by decide +kernel
theorem dX10_nextTo_140 : decode cX10_nextTo 140 = .ok (.goto 5, 3) := by decide +kernel
theorem dX10_nextTo_143 : decode cX10_nextTo 143 = .ok (.ldc 135, 2) := by decide +kernel
theorem dX10_nextTo_145 : decode cX10_nextTo 145 = .ok (.ireturn, 1) := by decide +kernel
theorem dX10_sheet_0 : decode cX10_sheet 0 = .ok (.aload_n 0, 1) := by decide +kernel
theorem dX10_sheet_1 : decode cX10_sheet 1 = .ok (.iconst 0, 1) := by decide +kernel
theorem dX10_sheet_2 : decode cX10_sheet 2 = .ok (.putfield 94, 3) := by decide +kernel
theorem dX10_sheet_5 : decode cX10_sheet 5 = .ok (.iload_n 1, 1) := by decide +kernel
theorem dX10_sheet_6 : decode cX10_sheet 6 = .ok (.i2l, 1) := by decide +kernel
theorem dX10_sheet_7 : decode cX10_sheet 7 = .ok (.lconst 1, 1) := by decide +kernel
theorem dX10_sheet_8 : decode cX10_sheet 8 = .ok (.ldc2_w 136, 3) := by decide +kernel
theorem dX10_sheet_11 : decode cX10_sheet 11 = .ok (.invokestatic 101, 3) := by decide +kernel
theorem dX10_sheet_14 : decode cX10_sheet 14 = .ok (.ifCond .ne 6, 3) := by decide +kernel
theorem dX10_sheet_17 : decode cX10_sheet 17 = .ok (.bipush (-2), 2) := by decide +kernel
theorem dX10_sheet_19 : decode cX10_sheet 19 = .ok (.ireturn, 1) := by decide +kernel
theorem dX10_sheet_20 : decode cX10_sheet 20 = .ok (.aload_n 0, 1) := by decide +kernel
theorem dX10_sheet_21 : decode cX10_sheet 21 = .ok (.getfield 7, 3) := by decide +kernel
theorem dX10_sheet_24 : decode cX10_sheet 24 = .ok (.istore_n 2, 1) := by decide +kernel
theorem dX10_sheet_25 : decode cX10_sheet 25 = .ok (.aload_n 0, 1) := by decide +kernel
theorem dX10_sheet_26 : decode cX10_sheet 26 = .ok (.iload_n 1, 1) := by decide +kernel
theorem dX10_sheet_27 : decode cX10_sheet 27 = .ok (.invokevirtual 90, 3) := by decide +kernel
theorem dX10_sheet_30 : decode cX10_sheet 30 = .ok (.iload_n 2, 1) := by decide +kernel
theorem dX10_sheet_31 : decode cX10_sheet 31 = .ok (.ireturn, 1) := by decide +kernel
theorem dX10_keep_0 : decode cX10_keep 0 = .ok (.iconst 0, 1) := by decide +kernel
theorem dX10_keep_1 : decode cX10_keep 1 = .ok (.istore_n 1, 1) := by decide +kernel
theorem dX10_keep_2 : decode cX10_keep 2 = .ok (.iload_n 1, 1) := by decide +kernel
theorem dX10_keep_3 : decode cX10_keep 3 = .ok (.aload_n 0, 1) := by decide +kernel
theorem dX10_keep_4 : decode cX10_keep 4 = .ok (.invokevirtual 97, 3) := by decide +kernel
theorem dX10_keep_7 : decode cX10_keep 7 = .ok (.if_icmp .ge 113, 3) := by decide +kernel
theorem dX10_keep_10 : decode cX10_keep 10 = .ok (.sipush 144, 3) := by decide +kernel
theorem dX10_keep_13 : decode cX10_keep 13 = .ok (.aload_n 0, 1) := by decide +kernel
theorem dX10_keep_14 : decode cX10_keep 14 = .ok (.getfield 111, 3) := by decide +kernel
theorem dX10_keep_17 : decode cX10_keep 17 = .ok (.imul, 1) := by decide +kernel
theorem dX10_keep_18 : decode cX10_keep 18 = .ok (.iload_n 1, 1) := by decide +kernel
theorem dX10_keep_19 : decode cX10_keep 19 = .ok (.iadd, 1) := by decide +kernel
theorem dX10_keep_20 : decode cX10_keep 20 = .ok (.istore_n 2, 1) := by decide +kernel
theorem dX10_keep_21 : decode cX10_keep 21 = .ok (.aload_n 0, 1) := by decide +kernel
theorem dX10_keep_22 : decode cX10_keep 22 = .ok (.getfield 33, 3) := by decide +kernel
theorem dX10_keep_25 : decode cX10_keep 25 = .ok (.iload_n 2, 1) := by decide +kernel
theorem dX10_keep_26 : decode cX10_keep 26 = .ok (.aload_n 0, 1) := by decide +kernel
theorem dX10_keep_27 : decode cX10_keep 27 = .ok (.getfield 13, 3) := by decide +kernel
theorem dX10_keep_30 : decode cX10_keep 30 = .ok (.iload_n 1, 1) := by decide +kernel
theorem dX10_keep_31 : decode cX10_keep 31 = .ok (.iaload, 1) := by decide +kernel
theorem dX10_keep_32 : decode cX10_keep 32 = .ok (.iastore, 1) := by decide +kernel
theorem dX10_keep_33 : decode cX10_keep 33 = .ok (.aload_n 0, 1) := by decide +kernel
theorem dX10_keep_34 : decode cX10_keep 34 = .ok (.getfield 36, 3) := by decide +kernel
theorem dX10_keep_37 : decode cX10_keep 37 = .ok (.iload_n 2, 1) := by decide +kernel
theorem dX10_keep_38 : decode cX10_keep 38 = .ok (.aload_n 0, 1) := by decide +kernel
theorem dX10_keep_39 : decode cX10_keep 39 = .ok (.getfield 17, 3) := by decide +kernel
theorem dX10_keep_42 : decode cX10_keep 42 = .ok (.iload_n 1, 1) := by decide +kernel
theorem dX10_keep_43 : decode cX10_keep 43 = .ok (.iaload, 1) := by decide +kernel
theorem dX10_keep_44 : decode cX10_keep 44 = .ok (.iastore, 1) := by decide +kernel
theorem dX10_keep_45 : decode cX10_keep 45 = .ok (.aload_n 0, 1) := by decide +kernel
theorem dX10_keep_46 : decode cX10_keep 46 = .ok (.getfield 39, 3) := by decide +kernel
theorem dX10_keep_49 : decode cX10_keep 49 = .ok (.iload_n 2, 1) := by decide +kernel
theorem dX10_keep_50 : decode cX10_keep 50 = .ok (.aload_n 0, 1) := by decide +kernel
theorem dX10_keep_51 : decode cX10_keep 51 = .ok (.getfield 20, 3) := by decide +kernel
theorem dX10_keep_54 : decode cX10_keep 54 = .ok (.iload_n 1, 1) := by decide +kernel
theorem dX10_keep_55 : decode cX10_keep 55 = .ok (.iaload, 1) := by decide +kernel
theorem dX10_keep_56 : decode cX10_keep 56 = .ok (.iastore, 1) := by decide +kernel
theorem dX10_keep_57 : decode cX10_keep 57 = .ok (.aload_n 0, 1) := by decide +kernel
theorem dX10_keep_58 : decode cX10_keep 58 = .ok (.getfield 42, 3) := by decide +kernel
theorem dX10_keep_61 : decode cX10_keep 61 = .ok (.iload_n 2, 1) := by decide +kernel
theorem dX10_keep_62 : decode cX10_keep 62 = .ok (.aload_n 0, 1) := by decide +kernel
theorem dX10_keep_63 : decode cX10_keep 63 = .ok (.getfield 23, 3) := by decide +kernel
theorem dX10_keep_66 : decode cX10_keep 66 = .ok (.iload_n 1, 1) := by decide +kernel
theorem dX10_keep_67 : decode cX10_keep 67 = .ok (.iaload, 1) := by decide +kernel
theorem dX10_keep_68 : decode cX10_keep 68 = .ok (.iastore, 1) := by decide +kernel
theorem dX10_keep_69 : decode cX10_keep 69 = .ok (.aload_n 0, 1) := by decide +kernel
theorem dX10_keep_70 : decode cX10_keep 70 = .ok (.getfield 45, 3) := by decide +kernel
theorem dX10_keep_73 : decode cX10_keep 73 = .ok (.iload_n 2, 1) := by decide +kernel
theorem dX10_keep_74 : decode cX10_keep 74 = .ok (.aload_n 0, 1) := by decide +kernel
theorem dX10_keep_75 : decode cX10_keep 75 = .ok (.getfield 26, 3) := by decide +kernel
theorem dX10_keep_78 : decode cX10_keep 78 = .ok (.iload_n 1, 1) := by decide +kernel
theorem dX10_keep_79 : decode cX10_keep 79 = .ok (.baload, 1) := by decide +kernel
theorem dX10_keep_80 : decode cX10_keep 80 = .ok (.bastore, 1) := by decide +kernel
theorem dX10_keep_81 : decode cX10_keep 81 = .ok (.iconst 0, 1) := by decide +kernel
theorem dX10_keep_82 : decode cX10_keep 82 = .ok (.istore_n 3, 1) := by decide +kernel
theorem dX10_keep_83 : decode cX10_keep 83 = .ok (.iload_n 3, 1) := by decide +kernel
theorem dX10_keep_84 : decode cX10_keep 84 = .ok (.iconst 3, 1) := by decide +kernel
theorem dX10_keep_85 : decode cX10_keep 85 = .ok (.if_icmp .ge 29, 3) := by decide +kernel
theorem dX10_keep_88 : decode cX10_keep 88 = .ok (.aload_n 0, 1) := by decide +kernel
theorem dX10_keep_89 : decode cX10_keep 89 = .ok (.getfield 48, 3) := by decide +kernel
theorem dX10_keep_92 : decode cX10_keep 92 = .ok (.iconst 3, 1) := by decide +kernel
theorem dX10_keep_93 : decode cX10_keep 93 = .ok (.iload_n 2, 1) := by decide +kernel
theorem dX10_keep_94 : decode cX10_keep 94 = .ok (.imul, 1) := by decide +kernel
theorem dX10_keep_95 : decode cX10_keep 95 = .ok (.iload_n 3, 1) := by decide +kernel
theorem dX10_keep_96 : decode cX10_keep 96 = .ok (.iadd, 1) := by decide +kernel
theorem dX10_keep_97 : decode cX10_keep 97 = .ok (.aload_n 0, 1) := by decide +kernel
theorem dX10_keep_98 : decode cX10_keep 98 = .ok (.getfield 30, 3) := by decide +kernel
theorem dX10_keep_101 : decode cX10_keep 101 = .ok (.iconst 3, 1) := by decide +kernel
theorem dX10_keep_102 : decode cX10_keep 102 = .ok (.iload_n 1, 1) := by decide +kernel
theorem dX10_keep_103 : decode cX10_keep 103 = .ok (.imul, 1) := by decide +kernel
theorem dX10_keep_104 : decode cX10_keep 104 = .ok (.iload_n 3, 1) := by decide +kernel
theorem dX10_keep_105 : decode cX10_keep 105 = .ok (.iadd, 1) := by decide +kernel
theorem dX10_keep_106 : decode cX10_keep 106 = .ok (.iaload, 1) := by decide +kernel
theorem dX10_keep_107 : decode cX10_keep 107 = .ok (.iastore, 1) := by decide +kernel
theorem dX10_keep_108 : decode cX10_keep 108 = .ok (.iinc 3 1, 3) := by decide +kernel
theorem dX10_keep_111 : decode cX10_keep 111 = .ok (.goto (-28), 3) := by decide +kernel
theorem dX10_keep_114 : decode cX10_keep 114 = .ok (.iinc 1 1, 3) := by decide +kernel
theorem dX10_keep_117 : decode cX10_keep 117 = .ok (.goto (-115), 3) := by decide +kernel
theorem dX10_keep_120 : decode cX10_keep 120 = .ok (.return_, 1) := by decide +kernel
theorem dX10_fold_0 : decode cX10_fold 0 = .ok (.aload_n 0, 1) := by decide +kernel
theorem dX10_fold_1 : decode cX10_fold 1 = .ok (.iconst 0, 1) := by decide +kernel
theorem dX10_fold_2 : decode cX10_fold 2 = .ok (.putfield 94, 3) := by decide +kernel
theorem dX10_fold_5 : decode cX10_fold 5 = .ok (.iload_n 1, 1) := by decide +kernel
theorem dX10_fold_6 : decode cX10_fold 6 = .ok (.iload_n 2, 1) := by decide +kernel
theorem dX10_fold_7 : decode cX10_fold 7 = .ok (.invokestatic 138, 3) := by decide +kernel
theorem dX10_fold_10 : decode cX10_fold 10 = .ok (.ifCond .ne 13, 3) := by decide +kernel
theorem dX10_fold_13 : decode cX10_fold 13 = .ok (.iload_n 3, 1) := by decide +kernel
theorem dX10_fold_14 : decode cX10_fold 14 = .ok (.i2l, 1) := by decide +kernel
theorem dX10_fold_15 : decode cX10_fold 15 = .ok (.lconst 0, 1) := by decide +kernel
theorem dX10_fold_16 : decode cX10_fold 16 = .ok (.lconst 1, 1) := by decide +kernel
theorem dX10_fold_17 : decode cX10_fold 17 = .ok (.invokestatic 101, 3) := by decide +kernel
theorem dX10_fold_20 : decode cX10_fold 20 = .ok (.ifCond .ne 6, 3) := by decide +kernel
theorem dX10_fold_23 : decode cX10_fold 23 = .ok (.bipush (-2), 2) := by decide +kernel
theorem dX10_fold_25 : decode cX10_fold 25 = .ok (.ireturn, 1) := by decide +kernel
theorem dX10_fold_26 : decode cX10_fold 26 = .ok (.iconst 0, 1) := by decide +kernel
theorem dX10_fold_27 : decode cX10_fold 27 = .ok (.istore 5, 2) := by decide +kernel
theorem dX10_fold_29 : decode cX10_fold 29 = .ok (.iconst 0, 1) := by decide +kernel
theorem dX10_fold_30 : decode cX10_fold 30 = .ok (.istore 6, 2) := by decide +kernel
theorem dX10_fold_32 : decode cX10_fold 32 = .ok (.iload 6, 2) := by decide +kernel
theorem dX10_fold_34 : decode cX10_fold 34 = .ok (.aload_n 0, 1) := by decide +kernel
theorem dX10_fold_35 : decode cX10_fold 35 = .ok (.invokevirtual 97, 3) := by decide +kernel
theorem dX10_fold_38 : decode cX10_fold 38 = .ok (.if_icmp .ge 71, 3) := by decide +kernel
theorem dX10_fold_41 : decode cX10_fold 41 = .ok (.aload_n 0, 1) := by decide +kernel
theorem dX10_fold_42 : decode cX10_fold 42 = .ok (.getfield 51, 3) := by decide +kernel
theorem dX10_fold_45 : decode cX10_fold 45 = .ok (.iload 6, 2) := by decide +kernel
theorem dX10_fold_47 : decode cX10_fold 47 = .ok (.iload_n 1, 1) := by decide +kernel
theorem dX10_fold_48 : decode cX10_fold 48 = .ok (.iload_n 2, 1) := by decide +kernel
theorem dX10_fold_49 : decode cX10_fold 49 = .ok (.aload_n 0, 1) := by decide +kernel
theorem dX10_fold_50 : decode cX10_fold 50 = .ok (.getfield 13, 3) := by decide +kernel
theorem dX10_fold_53 : decode cX10_fold 53 = .ok (.iload 6, 2) := by decide +kernel
theorem dX10_fold_55 : decode cX10_fold 55 = .ok (.iaload, 1) := by decide +kernel
theorem dX10_fold_56 : decode cX10_fold 56 = .ok (.aload_n 0, 1) := by decide +kernel
theorem dX10_fold_57 : decode cX10_fold 57 = .ok (.getfield 17, 3) := by decide +kernel
theorem dX10_fold_60 : decode cX10_fold 60 = .ok (.iload 6, 2) := by decide +kernel
theorem dX10_fold_62 : decode cX10_fold 62 = .ok (.iaload, 1) := by decide +kernel
theorem dX10_fold_63 : decode cX10_fold 63 = .ok (.aload_n 0, 1) := by decide +kernel
theorem dX10_fold_64 : decode cX10_fold 64 = .ok (.getfield 20, 3) := by decide +kernel
theorem dX10_fold_67 : decode cX10_fold 67 = .ok (.iload 6, 2) := by decide +kernel
theorem dX10_fold_69 : decode cX10_fold 69 = .ok (.iaload, 1) := by decide +kernel
theorem dX10_fold_70 : decode cX10_fold 70 = .ok (.invokestatic 142, 3) := by decide +kernel
theorem dX10_fold_73 : decode cX10_fold 73 = .ok (.iload_n 3, 1) := by decide +kernel
theorem dX10_fold_74 : decode cX10_fold 74 = .ok (.if_icmp .ne 7, 3) := by decide +kernel
theorem dX10_fold_77 : decode cX10_fold 77 = .ok (.iconst 1, 1) := by decide +kernel
theorem dX10_fold_78 : decode cX10_fold 78 = .ok (.goto 4, 3) := by decide +kernel
theorem dX10_fold_81 : decode cX10_fold 81 = .ok (.iconst 0, 1) := by decide +kernel
theorem dX10_fold_82 : decode cX10_fold 82 = .ok (.bastore, 1) := by decide +kernel
theorem dX10_fold_83 : decode cX10_fold 83 = .ok (.iload 5, 2) := by decide +kernel
theorem dX10_fold_85 : decode cX10_fold 85 = .ok (.aload_n 0, 1) := by decide +kernel
theorem dX10_fold_86 : decode cX10_fold 86 = .ok (.getfield 51, 3) := by decide +kernel
theorem dX10_fold_89 : decode cX10_fold 89 = .ok (.iload 6, 2) := by decide +kernel
theorem dX10_fold_91 : decode cX10_fold 91 = .ok (.baload, 1) := by decide +kernel
theorem dX10_fold_92 : decode cX10_fold 92 = .ok (.ifCond .eq 7, 3) := by decide +kernel
theorem dX10_fold_95 : decode cX10_fold 95 = .ok (.iconst 1, 1) := by decide +kernel
theorem dX10_fold_96 : decode cX10_fold 96 = .ok (.goto 4, 3) := by decide +kernel
theorem dX10_fold_99 : decode cX10_fold 99 = .ok (.iconst 0, 1) := by decide +kernel
theorem dX10_fold_100 : decode cX10_fold 100 = .ok (.iadd, 1) := by decide +kernel
theorem dX10_fold_101 : decode cX10_fold 101 = .ok (.istore 5, 2) := by decide +kernel
theorem dX10_fold_103 : decode cX10_fold 103 = .ok (.iinc 6 1, 3) := by decide +kernel
theorem dX10_fold_106 : decode cX10_fold 106 = .ok (.goto (-74), 3) := by decide +kernel
theorem dX10_fold_109 : decode cX10_fold 109 = .ok (.aload_n 0, 1) := by decide +kernel
theorem dX10_fold_110 : decode cX10_fold 110 = .ok (.getfield 114, 3) := by decide +kernel
theorem dX10_fold_113 : decode cX10_fold 113 = .ok (.ifCond .ne 17, 3) := by decide +kernel
theorem dX10_fold_116 : decode cX10_fold 116 = .ok (.iload 5, 2) := by decide +kernel
theorem dX10_fold_118 : decode cX10_fold 118 = .ok (.ifCond .eq 12, 3) := by decide +kernel
theorem dX10_fold_121 : decode cX10_fold 121 = .ok (.iload 5, 2) := by decide +kernel
theorem dX10_fold_123 : decode cX10_fold 123 = .ok (.aload_n 0, 1) := by decide +kernel
theorem dX10_fold_124 : decode cX10_fold 124 = .ok (.invokevirtual 97, 3) := by decide +kernel
theorem dX10_fold_127 : decode cX10_fold 127 = .ok (.if_icmp .ne 6, 3) := by decide +kernel
theorem dX10_fold_130 : decode cX10_fold 130 = .ok (.bipush (-3), 2) := by decide +kernel
theorem dX10_fold_132 : decode cX10_fold 132 = .ok (.ireturn, 1) := by decide +kernel
theorem dX10_fold_133 : decode cX10_fold 133 = .ok (.aload_n 0, 1) := by decide +kernel
theorem dX10_fold_134 : decode cX10_fold 134 = .ok (.getfield 111, 3) := by decide +kernel
theorem dX10_fold_137 : decode cX10_fold 137 = .ok (.bipush 8, 2) := by decide +kernel
theorem dX10_fold_139 : decode cX10_fold 139 = .ok (.if_icmp .ne 6, 3) := by decide +kernel
theorem dX10_fold_142 : decode cX10_fold 142 = .ok (.bipush (-4), 2) := by decide +kernel
theorem dX10_fold_144 : decode cX10_fold 144 = .ok (.ireturn, 1) := by decide +kernel
theorem dX10_fold_145 : decode cX10_fold 145 = .ok (.aload_n 0, 1) := by decide +kernel
theorem dX10_fold_146 : decode cX10_fold 146 = .ok (.invokevirtual 146, 3) := by decide +kernel
theorem dX10_fold_149 : decode cX10_fold 149 = .ok (.iconst 0, 1) := by decide +kernel
theorem dX10_fold_150 : decode cX10_fold 150 = .ok (.istore 6, 2) := by decide +kernel
theorem dX10_fold_152 : decode cX10_fold 152 = .ok (.iload 6, 2) := by decide +kernel
theorem dX10_fold_154 : decode cX10_fold 154 = .ok (.aload_n 0, 1) := by decide +kernel
theorem dX10_fold_155 : decode cX10_fold 155 = .ok (.invokevirtual 97, 3) := by decide +kernel
theorem dX10_fold_158 : decode cX10_fold 158 = .ok (.if_icmp .ge 87, 3) := by decide +kernel
theorem dX10_fold_161 : decode cX10_fold 161 = .ok (.iconst 0, 1) := by decide +kernel
theorem dX10_fold_162 : decode cX10_fold 162 = .ok (.istore 7, 2) := by decide +kernel
theorem dX10_fold_164 : decode cX10_fold 164 = .ok (.iload 7, 2) := by decide +kernel
theorem dX10_fold_166 : decode cX10_fold 166 = .ok (.iconst 3, 1) := by decide +kernel
theorem dX10_fold_167 : decode cX10_fold 167 = .ok (.if_icmp .ge 72, 3) := by decide +kernel
theorem dX10_fold_170 : decode cX10_fold 170 = .ok (.aload_n 0, 1) := by decide +kernel
theorem dX10_fold_171 : decode cX10_fold 171 = .ok (.iload 6, 2) := by decide +kernel
theorem dX10_fold_173 : decode cX10_fold 173 = .ok (.iload 7, 2) := by decide +kernel
theorem dX10_fold_175 : decode cX10_fold 175 = .ok (.invokevirtual 149, 3) := by decide +kernel
theorem dX10_fold_178 : decode cX10_fold 178 = .ok (.istore 8, 2) := by decide +kernel
theorem dX10_fold_180 : decode cX10_fold 180 = .ok (.iload 8, 2) := by decide +kernel
theorem dX10_fold_182 : decode cX10_fold 182 = .ok (.ldc 135, 2) := by decide +kernel
theorem dX10_fold_184 : decode cX10_fold 184 = .ok (.if_icmp .eq 49, 3) := by decide +kernel
theorem dX10_fold_187 : decode cX10_fold 187 = .ok (.aload_n 0, 1) := by decide +kernel
theorem dX10_fold_188 : decode cX10_fold 188 = .ok (.getfield 51, 3) := by decide +kernel
theorem dX10_fold_191 : decode cX10_fold 191 = .ok (.iload 6, 2) := by decide +kernel
theorem dX10_fold_193 : decode cX10_fold 193 = .ok (.baload, 1) := by decide +kernel
theorem dX10_fold_194 : decode cX10_fold 194 = .ok (.aload_n 0, 1) := by decide +kernel
theorem dX10_fold_195 : decode cX10_fold 195 = .ok (.getfield 51, 3) := by decide +kernel
theorem dX10_fold_198 : decode cX10_fold 198 = .ok (.iload 8, 2) := by decide +kernel
theorem dX10_fold_200 : decode cX10_fold 200 = .ok (.baload, 1) := by decide +kernel
theorem dX10_fold_201 : decode cX10_fold 201 = .ok (.if_icmp .eq 32, 3) := by decide +kernel
theorem dX10_fold_204 : decode cX10_fold 204 = .ok (.aload_n 0, 1) := by decide +kernel
theorem dX10_fold_205 : decode cX10_fold 205 = .ok (.getfield 30, 3) := by decide +kernel
theorem dX10_fold_208 : decode cX10_fold 208 = .ok (.iconst 3, 1) := by decide +kernel
theorem dX10_fold_209 : decode cX10_fold 209 = .ok (.iload 6, 2) := by decide +kernel
theorem dX10_fold_211 : decode cX10_fold 211 = .ok (.imul, 1) := by decide +kernel
theorem dX10_fold_212 : decode cX10_fold 212 = .ok (.iload 7, 2) := by decide +kernel
theorem dX10_fold_214 : decode cX10_fold 214 = .ok (.iadd, 1) := by decide +kernel
theorem dX10_fold_215 : decode cX10_fold 215 = .ok (.iload 4, 2) := by decide +kernel
theorem dX10_fold_217 : decode cX10_fold 217 = .ok (.aload_n 0, 1) := by decide +kernel
theorem dX10_fold_218 : decode cX10_fold 218 = .ok (.getfield 26, 3) := by decide +kernel
theorem dX10_fold_221 : decode cX10_fold 221 = .ok (.iload 6, 2) := by decide +kernel
theorem dX10_fold_223 : decode cX10_fold 223 = .ok (.baload, 1) := by decide +kernel
theorem dX10_fold_224 : decode cX10_fold 224 = .ok (.if_icmp .ne 7, 3) := by decide +kernel
theorem dX10_fold_227 : decode cX10_fold 227 = .ok (.iconst 1, 1) := by decide +kernel
theorem dX10_fold_228 : decode cX10_fold 228 = .ok (.goto 4, 3) := by decide +kernel
theorem dX10_fold_231 : decode cX10_fold 231 = .ok (.iconst 2, 1) := by decide +kernel
theorem dX10_fold_232 : decode cX10_fold 232 = .ok (.iastore, 1) := by decide +kernel
theorem dX10_fold_233 : decode cX10_fold 233 = .ok (.iinc 7 1, 3) := by decide +kernel
theorem dX10_fold_236 : decode cX10_fold 236 = .ok (.goto (-72), 3) := by decide +kernel
theorem dX10_fold_239 : decode cX10_fold 239 = .ok (.iinc 6 1, 3) := by decide +kernel
theorem dX10_fold_242 : decode cX10_fold 242 = .ok (.goto (-90), 3) := by decide +kernel
theorem dX10_fold_245 : decode cX10_fold 245 = .ok (.sipush 144, 3) := by decide +kernel
theorem dX10_fold_248 : decode cX10_fold 248 = .ok (.aload_n 0, 1) := by decide +kernel
theorem dX10_fold_249 : decode cX10_fold 249 = .ok (.getfield 111, 3) := by decide +kernel
theorem dX10_fold_252 : decode cX10_fold 252 = .ok (.imul, 1) := by decide +kernel
theorem dX10_fold_253 : decode cX10_fold 253 = .ok (.istore 6, 2) := by decide +kernel
theorem dX10_fold_255 : decode cX10_fold 255 = .ok (.aload_n 0, 1) := by decide +kernel
theorem dX10_fold_256 : decode cX10_fold 256 = .ok (.dup, 1) := by decide +kernel
theorem dX10_fold_257 : decode cX10_fold 257 = .ok (.getfield 111, 3) := by decide +kernel
theorem dX10_fold_260 : decode cX10_fold 260 = .ok (.iconst 1, 1) := by decide +kernel
theorem dX10_fold_261 : decode cX10_fold 261 = .ok (.iadd, 1) := by decide +kernel
theorem dX10_fold_262 : decode cX10_fold 262 = .ok (.putfield 111, 3) := by decide +kernel
theorem dX10_fold_265 : decode cX10_fold 265 = .ok (.iconst 0, 1) := by decide +kernel
theorem dX10_fold_266 : decode cX10_fold 266 = .ok (.istore 7, 2) := by decide +kernel
theorem dX10_fold_268 : decode cX10_fold 268 = .ok (.iload 7, 2) := by decide +kernel
theorem dX10_fold_270 : decode cX10_fold 270 = .ok (.aload_n 0, 1) := by decide +kernel
theorem dX10_fold_271 : decode cX10_fold 271 = .ok (.invokevirtual 97, 3) := by decide +kernel
theorem dX10_fold_274 : decode cX10_fold 274 = .ok (.if_icmp .ge 309, 3) := by decide +kernel
theorem dX10_fold_277 : decode cX10_fold 277 = .ok (.aload_n 0, 1) := by decide +kernel
theorem dX10_fold_278 : decode cX10_fold 278 = .ok (.getfield 51, 3) := by decide +kernel
theorem dX10_fold_281 : decode cX10_fold 281 = .ok (.iload 7, 2) := by decide +kernel
theorem dX10_fold_283 : decode cX10_fold 283 = .ok (.baload, 1) := by decide +kernel
theorem dX10_fold_284 : decode cX10_fold 284 = .ok (.ifCond .eq 293, 3) := by decide +kernel
theorem dX10_fold_287 : decode cX10_fold 287 = .ok (.iconst 0, 1) := by decide +kernel
theorem dX10_fold_288 : decode cX10_fold 288 = .ok (.istore 8, 2) := by decide +kernel
theorem dX10_fold_290 : decode cX10_fold 290 = .ok (.iconst 0, 1) := by decide +kernel
theorem dX10_fold_291 : decode cX10_fold 291 = .ok (.istore 9, 2) := by decide +kernel
theorem dX10_fold_293 : decode cX10_fold 293 = .ok (.iload 9, 2) := by decide +kernel
theorem dX10_fold_295 : decode cX10_fold 295 = .ok (.aload_n 0, 1) := by decide +kernel
theorem dX10_fold_296 : decode cX10_fold 296 = .ok (.invokevirtual 97, 3) := by decide +kernel
theorem dX10_fold_299 : decode cX10_fold 299 = .ok (.if_icmp .ge 88, 3) := by decide +kernel
theorem dX10_fold_302 : decode cX10_fold 302 = .ok (.iload 8, 2) := by decide +kernel
theorem dX10_fold_304 : decode cX10_fold 304 = .ok (.aload_n 0, 1) := by decide +kernel
theorem dX10_fold_305 : decode cX10_fold 305 = .ok (.getfield 33, 3) := by decide +kernel
theorem dX10_fold_308 : decode cX10_fold 308 = .ok (.iload 6, 2) := by decide +kernel
theorem dX10_fold_310 : decode cX10_fold 310 = .ok (.iload 9, 2) := by decide +kernel
theorem dX10_fold_312 : decode cX10_fold 312 = .ok (.iadd, 1) := by decide +kernel
theorem dX10_fold_313 : decode cX10_fold 313 = .ok (.iaload, 1) := by decide +kernel
theorem dX10_fold_314 : decode cX10_fold 314 = .ok (.aload_n 0, 1) := by decide +kernel
theorem dX10_fold_315 : decode cX10_fold 315 = .ok (.getfield 33, 3) := by decide +kernel
theorem dX10_fold_318 : decode cX10_fold 318 = .ok (.iload 6, 2) := by decide +kernel
theorem dX10_fold_320 : decode cX10_fold 320 = .ok (.iload 7, 2) := by decide +kernel
theorem dX10_fold_322 : decode cX10_fold 322 = .ok (.iadd, 1) := by decide +kernel
theorem dX10_fold_323 : decode cX10_fold 323 = .ok (.iaload, 1) := by decide +kernel
theorem dX10_fold_324 : decode cX10_fold 324 = .ok (.if_icmp .ne 53, 3) := by decide +kernel
theorem dX10_fold_327 : decode cX10_fold 327 = .ok (.aload_n 0, 1) := by decide +kernel
theorem dX10_fold_328 : decode cX10_fold 328 = .ok (.getfield 36, 3) := by decide +kernel
theorem dX10_fold_331 : decode cX10_fold 331 = .ok (.iload 6, 2) := by decide +kernel
theorem dX10_fold_333 : decode cX10_fold 333 = .ok (.iload 9, 2) := by decide +kernel
theorem dX10_fold_335 : decode cX10_fold 335 = .ok (.iadd, 1) := by decide +kernel
theorem dX10_fold_336 : decode cX10_fold 336 = .ok (.iaload, 1) := by decide +kernel
theorem dX10_fold_337 : decode cX10_fold 337 = .ok (.aload_n 0, 1) := by decide +kernel
theorem dX10_fold_338 : decode cX10_fold 338 = .ok (.getfield 36, 3) := by decide +kernel
theorem dX10_fold_341 : decode cX10_fold 341 = .ok (.iload 6, 2) := by decide +kernel
theorem dX10_fold_343 : decode cX10_fold 343 = .ok (.iload 7, 2) := by decide +kernel
theorem dX10_fold_345 : decode cX10_fold 345 = .ok (.iadd, 1) := by decide +kernel
theorem dX10_fold_346 : decode cX10_fold 346 = .ok (.iaload, 1) := by decide +kernel
theorem dX10_fold_347 : decode cX10_fold 347 = .ok (.if_icmp .ne 30, 3) := by decide +kernel
theorem dX10_fold_350 : decode cX10_fold 350 = .ok (.aload_n 0, 1) := by decide +kernel
theorem dX10_fold_351 : decode cX10_fold 351 = .ok (.getfield 39, 3) := by decide +kernel
theorem dX10_fold_354 : decode cX10_fold 354 = .ok (.iload 6, 2) := by decide +kernel
theorem dX10_fold_356 : decode cX10_fold 356 = .ok (.iload 9, 2) := by decide +kernel
theorem dX10_fold_358 : decode cX10_fold 358 = .ok (.iadd, 1) := by decide +kernel
theorem dX10_fold_359 : decode cX10_fold 359 = .ok (.iaload, 1) := by decide +kernel
theorem dX10_fold_360 : decode cX10_fold 360 = .ok (.aload_n 0, 1) := by decide +kernel
theorem dX10_fold_361 : decode cX10_fold 361 = .ok (.getfield 39, 3) := by decide +kernel
theorem dX10_fold_364 : decode cX10_fold 364 = .ok (.iload 6, 2) := by decide +kernel
theorem dX10_fold_366 : decode cX10_fold 366 = .ok (.iload 7, 2) := by decide +kernel
theorem dX10_fold_368 : decode cX10_fold 368 = .ok (.iadd, 1) := by decide +kernel
theorem dX10_fold_369 : decode cX10_fold 369 = .ok (.iaload, 1) := by decide +kernel
theorem dX10_fold_370 : decode cX10_fold 370 = .ok (.if_icmp .ne 7, 3) := by decide +kernel
theorem dX10_fold_373 : decode cX10_fold 373 = .ok (.iconst 1, 1) := by decide +kernel
theorem dX10_fold_374 : decode cX10_fold 374 = .ok (.goto 4, 3) := by decide +kernel
theorem dX10_fold_377 : decode cX10_fold 377 = .ok (.iconst 0, 1) := by decide +kernel
theorem dX10_fold_378 : decode cX10_fold 378 = .ok (.iadd, 1) := by decide +kernel
theorem dX10_fold_379 : decode cX10_fold 379 = .ok (.istore 8, 2) := by decide +kernel
theorem dX10_fold_381 : decode cX10_fold 381 = .ok (.iinc 9 1, 3) := by decide +kernel
theorem dX10_fold_384 : decode cX10_fold 384 = .ok (.goto (-91), 3) := by decide +kernel
theorem dX10_fold_387 : decode cX10_fold 387 = .ok (.aload_n 0, 1) := by decide +kernel
theorem dX10_fold_388 : decode cX10_fold 388 = .ok (.iload_n 1, 1) := by decide +kernel
theorem dX10_fold_389 : decode cX10_fold 389 = .ok (.iload_n 2, 1) := by decide +kernel
theorem dX10_fold_390 : decode cX10_fold 390 = .ok (.aload_n 0, 1) := by decide +kernel
theorem dX10_fold_391 : decode cX10_fold 391 = .ok (.getfield 13, 3) := by decide +kernel
theorem dX10_fold_394 : decode cX10_fold 394 = .ok (.iload 7, 2) := by decide +kernel
theorem dX10_fold_396 : decode cX10_fold 396 = .ok (.iaload, 1) := by decide +kernel
theorem dX10_fold_397 : decode cX10_fold 397 = .ok (.aload_n 0, 1) := by decide +kernel
theorem dX10_fold_398 : decode cX10_fold 398 = .ok (.getfield 17, 3) := by decide +kernel
theorem dX10_fold_401 : decode cX10_fold 401 = .ok (.iload 7, 2) := by decide +kernel
theorem dX10_fold_403 : decode cX10_fold 403 = .ok (.iaload, 1) := by decide +kernel
theorem dX10_fold_404 : decode cX10_fold 404 = .ok (.aload_n 0, 1) := by decide +kernel
theorem dX10_fold_405 : decode cX10_fold 405 = .ok (.getfield 20, 3) := by decide +kernel
theorem dX10_fold_408 : decode cX10_fold 408 = .ok (.iload 7, 2) := by decide +kernel
theorem dX10_fold_410 : decode cX10_fold 410 = .ok (.iaload, 1) := by decide +kernel
theorem dX10_fold_411 : decode cX10_fold 411 = .ok (.invokevirtual 153, 3) := by decide +kernel
theorem dX10_fold_414 : decode cX10_fold 414 = .ok (.iconst 0, 1) := by decide +kernel
theorem dX10_fold_415 : decode cX10_fold 415 = .ok (.istore 9, 2) := by decide +kernel
theorem dX10_fold_417 : decode cX10_fold 417 = .ok (.iconst 0, 1) := by decide +kernel
theorem dX10_fold_418 : decode cX10_fold 418 = .ok (.istore 10, 2) := by decide +kernel
theorem dX10_fold_420 : decode cX10_fold 420 = .ok (.iload 10, 2) := by decide +kernel
theorem dX10_fold_422 : decode cX10_fold 422 = .ok (.aload_n 0, 1) := by decide +kernel
theorem dX10_fold_423 : decode cX10_fold 423 = .ok (.invokevirtual 97, 3) := by decide +kernel
theorem dX10_fold_426 : decode cX10_fold 426 = .ok (.if_icmp .ge 62, 3) := by decide +kernel
theorem dX10_fold_429 : decode cX10_fold 429 = .ok (.aload_n 0, 1) := by decide +kernel
theorem dX10_fold_430 : decode cX10_fold 430 = .ok (.getfield 51, 3) := by decide +kernel
theorem dX10_fold_433 : decode cX10_fold 433 = .ok (.iload 10, 2) := by decide +kernel
theorem dX10_fold_435 : decode cX10_fold 435 = .ok (.baload, 1) := by decide +kernel
theorem dX10_fold_436 : decode cX10_fold 436 = .ok (.ifCond .ne 28, 3) := by decide +kernel
theorem dX10_fold_439 : decode cX10_fold 439 = .ok (.aload_n 0, 1) := by decide +kernel
theorem dX10_fold_440 : decode cX10_fold 440 = .ok (.iload 10, 2) := by decide +kernel
theorem dX10_fold_442 : decode cX10_fold 442 = .ok (.aload_n 0, 1) := by decide +kernel
theorem dX10_fold_443 : decode cX10_fold 443 = .ok (.getfield 122, 3) := by decide +kernel
theorem dX10_fold_446 : decode cX10_fold 446 = .ok (.aload_n 0, 1) := by decide +kernel
theorem dX10_fold_447 : decode cX10_fold 447 = .ok (.getfield 125, 3) := by decide +kernel
theorem dX10_fold_450 : decode cX10_fold 450 = .ok (.aload_n 0, 1) := by decide +kernel
theorem dX10_fold_451 : decode cX10_fold 451 = .ok (.getfield 128, 3) := by decide +kernel
theorem dX10_fold_454 : decode cX10_fold 454 = .ok (.invokevirtual 131, 3) := by decide +kernel
theorem dX10_fold_457 : decode cX10_fold 457 = .ok (.ifCond .eq 7, 3) := by decide +kernel
theorem dX10_fold_460 : decode cX10_fold 460 = .ok (.iconst 1, 1) := by decide +kernel
theorem dX10_fold_461 : decode cX10_fold 461 = .ok (.goto 4, 3) := by decide +kernel
theorem dX10_fold_464 : decode cX10_fold 464 = .ok (.iconst 0, 1) := by decide +kernel
theorem dX10_fold_465 : decode cX10_fold 465 = .ok (.istore 11, 2) := by decide +kernel
theorem dX10_fold_467 : decode cX10_fold 467 = .ok (.iload 9, 2) := by decide +kernel
theorem dX10_fold_469 : decode cX10_fold 469 = .ok (.iload 11, 2) := by decide +kernel
theorem dX10_fold_471 : decode cX10_fold 471 = .ok (.ifCond .eq 7, 3) := by decide +kernel
theorem dX10_fold_474 : decode cX10_fold 474 = .ok (.iconst 1, 1) := by decide +kernel
theorem dX10_fold_475 : decode cX10_fold 475 = .ok (.goto 4, 3) := by decide +kernel
theorem dX10_fold_478 : decode cX10_fold 478 = .ok (.iconst 0, 1) := by decide +kernel
theorem dX10_fold_479 : decode cX10_fold 479 = .ok (.iadd, 1) := by decide +kernel
theorem dX10_fold_480 : decode cX10_fold 480 = .ok (.istore 9, 2) := by decide +kernel
theorem dX10_fold_482 : decode cX10_fold 482 = .ok (.iinc 10 1, 3) := by decide +kernel
theorem dX10_fold_485 : decode cX10_fold 485 = .ok (.goto (-65), 3) := by decide +kernel
theorem dX10_fold_488 : decode cX10_fold 488 = .ok (.aload_n 0, 1) := by decide +kernel
theorem dX10_fold_489 : decode cX10_fold 489 = .ok (.getfield 13, 3) := by decide +kernel
theorem dX10_fold_492 : decode cX10_fold 492 = .ok (.iload 7, 2) := by decide +kernel
theorem dX10_fold_494 : decode cX10_fold 494 = .ok (.aload_n 0, 1) := by decide +kernel
theorem dX10_fold_495 : decode cX10_fold 495 = .ok (.getfield 122, 3) := by decide +kernel
theorem dX10_fold_498 : decode cX10_fold 498 = .ok (.iastore, 1) := by decide +kernel
theorem dX10_fold_499 : decode cX10_fold 499 = .ok (.aload_n 0, 1) := by decide +kernel
theorem dX10_fold_500 : decode cX10_fold 500 = .ok (.getfield 17, 3) := by decide +kernel
theorem dX10_fold_503 : decode cX10_fold 503 = .ok (.iload 7, 2) := by decide +kernel
theorem dX10_fold_505 : decode cX10_fold 505 = .ok (.aload_n 0, 1) := by decide +kernel
theorem dX10_fold_506 : decode cX10_fold 506 = .ok (.getfield 125, 3) := by decide +kernel
theorem dX10_fold_509 : decode cX10_fold 509 = .ok (.iastore, 1) := by decide +kernel
theorem dX10_fold_510 : decode cX10_fold 510 = .ok (.aload_n 0, 1) := by decide +kernel
theorem dX10_fold_511 : decode cX10_fold 511 = .ok (.getfield 20, 3) := by decide +kernel
theorem dX10_fold_514 : decode cX10_fold 514 = .ok (.iload 7, 2) := by decide +kernel
theorem dX10_fold_516 : decode cX10_fold 516 = .ok (.aload_n 0, 1) := by decide +kernel
theorem dX10_fold_517 : decode cX10_fold 517 = .ok (.getfield 128, 3) := by decide +kernel
theorem dX10_fold_520 : decode cX10_fold 520 = .ok (.iastore, 1) := by decide +kernel
theorem dX10_fold_521 : decode cX10_fold 521 = .ok (.aload_n 0, 1) := by decide +kernel
theorem dX10_fold_522 : decode cX10_fold 522 = .ok (.getfield 23, 3) := by decide +kernel
theorem dX10_fold_525 : decode cX10_fold 525 = .ok (.iload 7, 2) := by decide +kernel
theorem dX10_fold_527 : decode cX10_fold 527 = .ok (.iload 8, 2) := by decide +kernel
theorem dX10_fold_529 : decode cX10_fold 529 = .ok (.iconst 1, 1) := by decide +kernel
theorem dX10_fold_530 : decode cX10_fold 530 = .ok (.isub, 1) := by decide +kernel
theorem dX10_fold_531 : decode cX10_fold 531 = .ok (.aload_n 0, 1) := by decide +kernel
theorem dX10_fold_532 : decode cX10_fold 532 = .ok (.getfield 42, 3) := by decide +kernel
theorem dX10_fold_535 : decode cX10_fold 535 = .ok (.iload 6, 2) := by decide +kernel
theorem dX10_fold_537 : decode cX10_fold 537 = .ok (.iload 7, 2) := by decide +kernel
theorem dX10_fold_539 : decode cX10_fold 539 = .ok (.iadd, 1) := by decide +kernel
theorem dX10_fold_540 : decode cX10_fold 540 = .ok (.iaload, 1) := by decide +kernel
theorem dX10_fold_541 : decode cX10_fold 541 = .ok (.isub, 1) := by decide +kernel
theorem dX10_fold_542 : decode cX10_fold 542 = .ok (.iload 4, 2) := by decide +kernel
theorem dX10_fold_544 : decode cX10_fold 544 = .ok (.ifCond .eq 8, 3) := by decide +kernel
theorem dX10_fold_547 : decode cX10_fold 547 = .ok (.iload 9, 2) := by decide +kernel
theorem dX10_fold_549 : decode cX10_fold 549 = .ok (.goto 4, 3) := by decide +kernel
theorem dX10_fold_552 : decode cX10_fold 552 = .ok (.iconst 0, 1) := by decide +kernel
theorem dX10_fold_553 : decode cX10_fold 553 = .ok (.iadd, 1) := by decide +kernel
theorem dX10_fold_554 : decode cX10_fold 554 = .ok (.iastore, 1) := by decide +kernel
theorem dX10_fold_555 : decode cX10_fold 555 = .ok (.aload_n 0, 1) := by decide +kernel
theorem dX10_fold_556 : decode cX10_fold 556 = .ok (.getfield 26, 3) := by decide +kernel
theorem dX10_fold_559 : decode cX10_fold 559 = .ok (.iload 7, 2) := by decide +kernel
theorem dX10_fold_561 : decode cX10_fold 561 = .ok (.aload_n 0, 1) := by decide +kernel
theorem dX10_fold_562 : decode cX10_fold 562 = .ok (.getfield 26, 3) := by decide +kernel
theorem dX10_fold_565 : decode cX10_fold 565 = .ok (.iload 7, 2) := by decide +kernel
theorem dX10_fold_567 : decode cX10_fold 567 = .ok (.baload, 1) := by decide +kernel
theorem dX10_fold_568 : decode cX10_fold 568 = .ok (.ifCond .ne 7, 3) := by decide +kernel
theorem dX10_fold_571 : decode cX10_fold 571 = .ok (.iconst 1, 1) := by decide +kernel
theorem dX10_fold_572 : decode cX10_fold 572 = .ok (.goto 4, 3) := by decide +kernel
theorem dX10_fold_575 : decode cX10_fold 575 = .ok (.iconst 0, 1) := by decide +kernel
theorem dX10_fold_576 : decode cX10_fold 576 = .ok (.bastore, 1) := by decide +kernel
theorem dX10_fold_577 : decode cX10_fold 577 = .ok (.iinc 7 1, 3) := by decide +kernel
theorem dX10_fold_580 : decode cX10_fold 580 = .ok (.goto (-312), 3) := by decide +kernel
theorem dX10_fold_583 : decode cX10_fold 583 = .ok (.iconst 0, 1) := by decide +kernel
theorem dX10_fold_584 : decode cX10_fold 584 = .ok (.istore 7, 2) := by decide +kernel
theorem dX10_fold_586 : decode cX10_fold 586 = .ok (.iload 7, 2) := by decide +kernel
theorem dX10_fold_588 : decode cX10_fold 588 = .ok (.aload_n 0, 1) := by decide +kernel
theorem dX10_fold_589 : decode cX10_fold 589 = .ok (.invokevirtual 97, 3) := by decide +kernel
theorem dX10_fold_592 : decode cX10_fold 592 = .ok (.if_icmp .ge 107, 3) := by decide +kernel
theorem dX10_fold_595 : decode cX10_fold 595 = .ok (.aload_n 0, 1) := by decide +kernel
theorem dX10_fold_596 : decode cX10_fold 596 = .ok (.getfield 51, 3) := by decide +kernel
theorem dX10_fold_599 : decode cX10_fold 599 = .ok (.iload 7, 2) := by decide +kernel
theorem dX10_fold_601 : decode cX10_fold 601 = .ok (.baload, 1) := by decide +kernel
theorem dX10_fold_602 : decode cX10_fold 602 = .ok (.ifCond .ne 91, 3) := by decide +kernel
theorem dX10_fold_605 : decode cX10_fold 605 = .ok (.iload 4, 2) := by decide +kernel
theorem dX10_fold_607 : decode cX10_fold 607 = .ok (.ifCond .ne 86, 3) := by decide +kernel
theorem dX10_fold_610 : decode cX10_fold 610 = .ok (.iconst 0, 1) := by decide +kernel
theorem dX10_fold_611 : decode cX10_fold 611 = .ok (.istore 8, 2) := by decide +kernel
theorem dX10_fold_613 : decode cX10_fold 613 = .ok (.iconst 0, 1) := by decide +kernel
theorem dX10_fold_614 : decode cX10_fold 614 = .ok (.istore 9, 2) := by decide +kernel
theorem dX10_fold_616 : decode cX10_fold 616 = .ok (.iload 9, 2) := by decide +kernel
theorem dX10_fold_618 : decode cX10_fold 618 = .ok (.aload_n 0, 1) := by decide +kernel
theorem dX10_fold_619 : decode cX10_fold 619 = .ok (.invokevirtual 97, 3) := by decide +kernel
theorem dX10_fold_622 : decode cX10_fold 622 = .ok (.if_icmp .ge 59, 3) := by decide +kernel
theorem dX10_fold_625 : decode cX10_fold 625 = .ok (.iload 8, 2) := by decide +kernel
theorem dX10_fold_627 : decode cX10_fold 627 = .ok (.aload_n 0, 1) := by decide +kernel
theorem dX10_fold_628 : decode cX10_fold 628 = .ok (.getfield 51, 3) := by decide +kernel
theorem dX10_fold_631 : decode cX10_fold 631 = .ok (.iload 9, 2) := by decide +kernel
theorem dX10_fold_633 : decode cX10_fold 633 = .ok (.baload, 1) := by decide +kernel
theorem dX10_fold_634 : decode cX10_fold 634 = .ok (.ifCond .eq 37, 3) := by decide +kernel
theorem dX10_fold_637 : decode cX10_fold 637 = .ok (.aload_n 0, 1) := by decide +kernel
theorem dX10_fold_638 : decode cX10_fold 638 = .ok (.iload 9, 2) := by decide +kernel
theorem dX10_fold_640 : decode cX10_fold 640 = .ok (.aload_n 0, 1) := by decide +kernel
theorem dX10_fold_641 : decode cX10_fold 641 = .ok (.getfield 13, 3) := by decide +kernel
theorem dX10_fold_644 : decode cX10_fold 644 = .ok (.iload 7, 2) := by decide +kernel
theorem dX10_fold_646 : decode cX10_fold 646 = .ok (.iaload, 1) := by decide +kernel
theorem dX10_fold_647 : decode cX10_fold 647 = .ok (.aload_n 0, 1) := by decide +kernel
theorem dX10_fold_648 : decode cX10_fold 648 = .ok (.getfield 17, 3) := by decide +kernel
theorem dX10_fold_651 : decode cX10_fold 651 = .ok (.iload 7, 2) := by decide +kernel
theorem dX10_fold_653 : decode cX10_fold 653 = .ok (.iaload, 1) := by decide +kernel
theorem dX10_fold_654 : decode cX10_fold 654 = .ok (.aload_n 0, 1) := by decide +kernel
theorem dX10_fold_655 : decode cX10_fold 655 = .ok (.getfield 20, 3) := by decide +kernel
theorem dX10_fold_658 : decode cX10_fold 658 = .ok (.iload 7, 2) := by decide +kernel
theorem dX10_fold_660 : decode cX10_fold 660 = .ok (.iaload, 1) := by decide +kernel
theorem dX10_fold_661 : decode cX10_fold 661 = .ok (.invokevirtual 131, 3) := by decide +kernel
theorem dX10_fold_664 : decode cX10_fold 664 = .ok (.ifCond .eq 7, 3) := by decide +kernel
theorem dX10_fold_667 : decode cX10_fold 667 = .ok (.iconst 1, 1) := by decide +kernel
theorem dX10_fold_668 : decode cX10_fold 668 = .ok (.goto 4, 3) := by decide +kernel
theorem dX10_fold_671 : decode cX10_fold 671 = .ok (.iconst 0, 1) := by decide +kernel
theorem dX10_fold_672 : decode cX10_fold 672 = .ok (.iadd, 1) := by decide +kernel
theorem dX10_fold_673 : decode cX10_fold 673 = .ok (.istore 8, 2) := by decide +kernel
theorem dX10_fold_675 : decode cX10_fold 675 = .ok (.iinc 9 1, 3) := by decide +kernel
theorem dX10_fold_678 : decode cX10_fold 678 = .ok (.goto (-62), 3) := by decide +kernel
theorem dX10_fold_681 : decode cX10_fold 681 = .ok (.aload_n 0, 1) := by decide +kernel
theorem dX10_fold_682 : decode cX10_fold 682 = .ok (.getfield 23, 3) := by decide +kernel
theorem dX10_fold_685 : decode cX10_fold 685 = .ok (.iload 7, 2) := by decide +kernel
theorem dX10_fold_687 : decode cX10_fold 687 = .ok (.dup2, 1) := by decide +kernel
theorem dX10_fold_688 : decode cX10_fold 688 = .ok (.iaload, 1) := by decide +kernel
theorem dX10_fold_689 : decode cX10_fold 689 = .ok (.iload 8, 2) := by decide +kernel
theorem dX10_fold_691 : decode cX10_fold 691 = .ok (.iadd, 1) := by decide +kernel
theorem dX10_fold_692 : decode cX10_fold 692 = .ok (.iastore, 1) := by decide +kernel
theorem dX10_fold_693 : decode cX10_fold 693 = .ok (.iinc 7 1, 3) := by decide +kernel
theorem dX10_fold_696 : decode cX10_fold 696 = .ok (.goto (-110), 3) := by decide +kernel
theorem dX10_fold_699 : decode cX10_fold 699 = .ok (.aload_n 0, 1) := by decide +kernel
theorem dX10_fold_700 : decode cX10_fold 700 = .ok (.invokevirtual 157, 3) := by decide +kernel
theorem dX10_fold_703 : decode cX10_fold 703 = .ok (.ireturn, 1) := by decide +kernel
theorem dX10_unfold_0 : decode cX10_unfold 0 = .ok (.aload_n 0, 1) := by decide +kernel
theorem dX10_unfold_1 : decode cX10_unfold 1 = .ok (.iconst 0, 1) := by decide +kernel
theorem dX10_unfold_2 : decode cX10_unfold 2 = .ok (.putfield 94, 3) := by decide +kernel
theorem dX10_unfold_5 : decode cX10_unfold 5 = .ok (.aload_n 0, 1) := by decide +kernel
theorem dX10_unfold_6 : decode cX10_unfold 6 = .ok (.getfield 111, 3) := by decide +kernel
theorem dX10_unfold_9 : decode cX10_unfold 9 = .ok (.ifCond .ne 6, 3) := by decide +kernel
theorem dX10_unfold_12 : decode cX10_unfold 12 = .ok (.bipush (-3), 2) := by decide +kernel
theorem dX10_unfold_14 : decode cX10_unfold 14 = .ok (.ireturn, 1) := by decide +kernel
theorem dX10_unfold_15 : decode cX10_unfold 15 = .ok (.aload_n 0, 1) := by decide +kernel
theorem dX10_unfold_16 : decode cX10_unfold 16 = .ok (.dup, 1) := by decide +kernel
theorem dX10_unfold_17 : decode cX10_unfold 17 = .ok (.getfield 111, 3) := by decide +kernel
theorem dX10_unfold_20 : decode cX10_unfold 20 = .ok (.iconst 1, 1) := by decide +kernel
theorem dX10_unfold_21 : decode cX10_unfold 21 = .ok (.isub, 1) := by decide +kernel
theorem dX10_unfold_22 : decode cX10_unfold 22 = .ok (.putfield 111, 3) := by decide +kernel
theorem dX10_unfold_25 : decode cX10_unfold 25 = .ok (.iconst 0, 1) := by decide +kernel
theorem dX10_unfold_26 : decode cX10_unfold 26 = .ok (.istore_n 1, 1) := by decide +kernel
theorem dX10_unfold_27 : decode cX10_unfold 27 = .ok (.iload_n 1, 1) := by decide +kernel
theorem dX10_unfold_28 : decode cX10_unfold 28 = .ok (.aload_n 0, 1) := by decide +kernel
theorem dX10_unfold_29 : decode cX10_unfold 29 = .ok (.invokevirtual 97, 3) := by decide +kernel
theorem dX10_unfold_32 : decode cX10_unfold 32 = .ok (.if_icmp .ge 113, 3) := by decide +kernel
theorem dX10_unfold_35 : decode cX10_unfold 35 = .ok (.sipush 144, 3) := by decide +kernel
theorem dX10_unfold_38 : decode cX10_unfold 38 = .ok (.aload_n 0, 1) := by decide +kernel
theorem dX10_unfold_39 : decode cX10_unfold 39 = .ok (.getfield 111, 3) := by decide +kernel
theorem dX10_unfold_42 : decode cX10_unfold 42 = .ok (.imul, 1) := by decide +kernel
theorem dX10_unfold_43 : decode cX10_unfold 43 = .ok (.iload_n 1, 1) := by decide +kernel
theorem dX10_unfold_44 : decode cX10_unfold 44 = .ok (.iadd, 1) := by decide +kernel
theorem dX10_unfold_45 : decode cX10_unfold 45 = .ok (.istore_n 2, 1) := by decide +kernel
theorem dX10_unfold_46 : decode cX10_unfold 46 = .ok (.aload_n 0, 1) := by decide +kernel
theorem dX10_unfold_47 : decode cX10_unfold 47 = .ok (.getfield 13, 3) := by decide +kernel
theorem dX10_unfold_50 : decode cX10_unfold 50 = .ok (.iload_n 1, 1) := by decide +kernel
theorem dX10_unfold_51 : decode cX10_unfold 51 = .ok (.aload_n 0, 1) := by decide +kernel
theorem dX10_unfold_52 : decode cX10_unfold 52 = .ok (.getfield 33, 3) := by decide +kernel
theorem dX10_unfold_55 : decode cX10_unfold 55 = .ok (.iload_n 2, 1) := by decide +kernel
theorem dX10_unfold_56 : decode cX10_unfold 56 = .ok (.iaload, 1) := by decide +kernel
theorem dX10_unfold_57 : decode cX10_unfold 57 = .ok (.iastore, 1) := by decide +kernel
theorem dX10_unfold_58 : decode cX10_unfold 58 = .ok (.aload_n 0, 1) := by decide +kernel
theorem dX10_unfold_59 : decode cX10_unfold 59 = .ok (.getfield 17, 3) := by decide +kernel
theorem dX10_unfold_62 : decode cX10_unfold 62 = .ok (.iload_n 1, 1) := by decide +kernel
theorem dX10_unfold_63 : decode cX10_unfold 63 = .ok (.aload_n 0, 1) := by decide +kernel
theorem dX10_unfold_64 : decode cX10_unfold 64 = .ok (.getfield 36, 3) := by decide +kernel
theorem dX10_unfold_67 : decode cX10_unfold 67 = .ok (.iload_n 2, 1) := by decide +kernel
theorem dX10_unfold_68 : decode cX10_unfold 68 = .ok (.iaload, 1) := by decide +kernel
theorem dX10_unfold_69 : decode cX10_unfold 69 = .ok (.iastore, 1) := by decide +kernel
theorem dX10_unfold_70 : decode cX10_unfold 70 = .ok (.aload_n 0, 1) := by decide +kernel
theorem dX10_unfold_71 : decode cX10_unfold 71 = .ok (.getfield 20, 3) := by decide +kernel
theorem dX10_unfold_74 : decode cX10_unfold 74 = .ok (.iload_n 1, 1) := by decide +kernel
theorem dX10_unfold_75 : decode cX10_unfold 75 = .ok (.aload_n 0, 1) := by decide +kernel
theorem dX10_unfold_76 : decode cX10_unfold 76 = .ok (.getfield 39, 3) := by decide +kernel
theorem dX10_unfold_79 : decode cX10_unfold 79 = .ok (.iload_n 2, 1) := by decide +kernel
theorem dX10_unfold_80 : decode cX10_unfold 80 = .ok (.iaload, 1) := by decide +kernel
theorem dX10_unfold_81 : decode cX10_unfold 81 = .ok (.iastore, 1) := by decide +kernel
theorem dX10_unfold_82 : decode cX10_unfold 82 = .ok (.aload_n 0, 1) := by decide +kernel
theorem dX10_unfold_83 : decode cX10_unfold 83 = .ok (.getfield 23, 3) := by decide +kernel
theorem dX10_unfold_86 : decode cX10_unfold 86 = .ok (.iload_n 1, 1) := by decide +kernel
theorem dX10_unfold_87 : decode cX10_unfold 87 = .ok (.aload_n 0, 1) := by decide +kernel
theorem dX10_unfold_88 : decode cX10_unfold 88 = .ok (.getfield 42, 3) := by decide +kernel
theorem dX10_unfold_91 : decode cX10_unfold 91 = .ok (.iload_n 2, 1) := by decide +kernel
theorem dX10_unfold_92 : decode cX10_unfold 92 = .ok (.iaload, 1) := by decide +kernel
theorem dX10_unfold_93 : decode cX10_unfold 93 = .ok (.iastore, 1) := by decide +kernel
theorem dX10_unfold_94 : decode cX10_unfold 94 = .ok (.aload_n 0, 1) := by decide +kernel
theorem dX10_unfold_95 : decode cX10_unfold 95 = .ok (.getfield 26, 3) := by decide +kernel
theorem dX10_unfold_98 : decode cX10_unfold 98 = .ok (.iload_n 1, 1) := by decide +kernel
theorem dX10_unfold_99 : decode cX10_unfold 99 = .ok (.aload_n 0, 1) := by decide +kernel
theorem dX10_unfold_100 : decode cX10_unfold 100 = .ok (.getfield 45, 3) := by decide +kernel
theorem dX10_unfold_103 : decode cX10_unfold 103 = .ok (.iload_n 2, 1) := by decide +kernel
theorem dX10_unfold_104 : decode cX10_unfold 104 = .ok (.baload, 1) := by decide +kernel
theorem dX10_unfold_105 : decode cX10_unfold 105 = .ok (.bastore, 1) := by decide +kernel
theorem dX10_unfold_106 : decode cX10_unfold 106 = .ok (.iconst 0, 1) := by decide +kernel
theorem dX10_unfold_107 : decode cX10_unfold 107 = .ok (.istore_n 3, 1) := by decide +kernel
theorem dX10_unfold_108 : decode cX10_unfold 108 = .ok (.iload_n 3, 1) := by decide +kernel
theorem dX10_unfold_109 : decode cX10_unfold 109 = .ok (.iconst 3, 1) := by decide +kernel
theorem dX10_unfold_110 : decode cX10_unfold 110 = .ok (.if_icmp .ge 29, 3) := by decide +kernel
theorem dX10_unfold_113 : decode cX10_unfold 113 = .ok (.aload_n 0, 1) := by decide +kernel
theorem dX10_unfold_114 : decode cX10_unfold 114 = .ok (.getfield 30, 3) := by decide +kernel
theorem dX10_unfold_117 : decode cX10_unfold 117 = .ok (.iconst 3, 1) := by decide +kernel
theorem dX10_unfold_118 : decode cX10_unfold 118 = .ok (.iload_n 1, 1) := by decide +kernel
theorem dX10_unfold_119 : decode cX10_unfold 119 = .ok (.imul, 1) := by decide +kernel
theorem dX10_unfold_120 : decode cX10_unfold 120 = .ok (.iload_n 3, 1) := by decide +kernel
theorem dX10_unfold_121 : decode cX10_unfold 121 = .ok (.iadd, 1) := by decide +kernel
theorem dX10_unfold_122 : decode cX10_unfold 122 = .ok (.aload_n 0, 1) := by decide +kernel
theorem dX10_unfold_123 : decode cX10_unfold 123 = .ok (.getfield 48, 3) := by decide +kernel
theorem dX10_unfold_126 : decode cX10_unfold 126 = .ok (.iconst 3, 1) := by decide +kernel
theorem dX10_unfold_127 : decode cX10_unfold 127 = .ok (.iload_n 2, 1) := by decide +kernel
theorem dX10_unfold_128 : decode cX10_unfold 128 = .ok (.imul, 1) := by decide +kernel
theorem dX10_unfold_129 : decode cX10_unfold 129 = .ok (.iload_n 3, 1) := by decide +kernel
theorem dX10_unfold_130 : decode cX10_unfold 130 = .ok (.iadd, 1) := by decide +kernel
theorem dX10_unfold_131 : decode cX10_unfold 131 = .ok (.iaload, 1) := by decide +kernel
theorem dX10_unfold_132 : decode cX10_unfold 132 = .ok (.iastore, 1) := by decide +kernel
theorem dX10_unfold_133 : decode cX10_unfold 133 = .ok (.iinc 3 1, 3) := by decide +kernel
theorem dX10_unfold_136 : decode cX10_unfold 136 = .ok (.goto (-28), 3) := by decide +kernel
theorem dX10_unfold_139 : decode cX10_unfold 139 = .ok (.iinc 1 1, 3) := by decide +kernel
theorem dX10_unfold_142 : decode cX10_unfold 142 = .ok (.goto (-115), 3) := by decide +kernel
theorem dX10_unfold_145 : decode cX10_unfold 145 = .ok (.aload_n 0, 1) := by decide +kernel
theorem dX10_unfold_146 : decode cX10_unfold 146 = .ok (.getfield 111, 3) := by decide +kernel
theorem dX10_unfold_149 : decode cX10_unfold 149 = .ok (.ireturn, 1) := by decide +kernel
theorem dX10_facet_0 : decode cX10_facet 0 = .ok (.aload_n 0, 1) := by decide +kernel
theorem dX10_facet_1 : decode cX10_facet 1 = .ok (.iconst 0, 1) := by decide +kernel
theorem dX10_facet_2 : decode cX10_facet 2 = .ok (.putfield 94, 3) := by decide +kernel
theorem dX10_facet_5 : decode cX10_facet 5 = .ok (.aload_n 0, 1) := by decide +kernel
theorem dX10_facet_6 : decode cX10_facet 6 = .ok (.iload_n 1, 1) := by decide +kernel
theorem dX10_facet_7 : decode cX10_facet 7 = .ok (.invokevirtual 160, 3) := by decide +kernel
theorem dX10_facet_10 : decode cX10_facet 10 = .ok (.ifCond .eq 5, 3) := by decide +kernel
theorem dX10_facet_13 : decode cX10_facet 13 = .ok (.iconst (-1), 1) := by decide +kernel
theorem dX10_facet_14 : decode cX10_facet 14 = .ok (.ireturn, 1) := by decide +kernel
theorem dX10_facet_15 : decode cX10_facet 15 = .ok (.iload_n 2, 1) := by decide +kernel
theorem dX10_facet_16 : decode cX10_facet 16 = .ok (.tableswitch 144 0 7 #[48, 55, 62, 69, 76, 91, 114, 129], 48) := by decide +kernel
theorem dX10_facet_64 : decode cX10_facet 64 = .ok (.aload_n 0, 1) := by decide +kernel
theorem dX10_facet_65 : decode cX10_facet 65 = .ok (.getfield 13, 3) := by decide +kernel
theorem dX10_facet_68 : decode cX10_facet 68 = .ok (.iload_n 1, 1) := by decide +kernel
theorem dX10_facet_69 : decode cX10_facet 69 = .ok (.iaload, 1) := by decide +kernel
theorem dX10_facet_70 : decode cX10_facet 70 = .ok (.ireturn, 1) := by decide +kernel
theorem dX10_facet_71 : decode cX10_facet 71 = .ok (.aload_n 0, 1) := by decide +kernel
theorem dX10_facet_72 : decode cX10_facet 72 = .ok (.getfield 17, 3) := by decide +kernel
theorem dX10_facet_75 : decode cX10_facet 75 = .ok (.iload_n 1, 1) := by decide +kernel
theorem dX10_facet_76 : decode cX10_facet 76 = .ok (.iaload, 1) := by decide +kernel
theorem dX10_facet_77 : decode cX10_facet 77 = .ok (.ireturn, 1) := by decide +kernel
theorem dX10_facet_78 : decode cX10_facet 78 = .ok (.aload_n 0, 1) := by decide +kernel
theorem dX10_facet_79 : decode cX10_facet 79 = .ok (.getfield 20, 3) := by decide +kernel
theorem dX10_facet_82 : decode cX10_facet 82 = .ok (.iload_n 1, 1) := by decide +kernel
theorem dX10_facet_83 : decode cX10_facet 83 = .ok (.iaload, 1) := by decide +kernel
theorem dX10_facet_84 : decode cX10_facet 84 = .ok (.ireturn, 1) := by decide +kernel
theorem dX10_facet_85 : decode cX10_facet 85 = .ok (.aload_n 0, 1) := by decide +kernel
theorem dX10_facet_86 : decode cX10_facet 86 = .ok (.getfield 23, 3) := by decide +kernel
theorem dX10_facet_89 : decode cX10_facet 89 = .ok (.iload_n 1, 1) := by decide +kernel
theorem dX10_facet_90 : decode cX10_facet 90 = .ok (.iaload, 1) := by decide +kernel
theorem dX10_facet_91 : decode cX10_facet 91 = .ok (.ireturn, 1) := by decide +kernel
theorem dX10_facet_92 : decode cX10_facet 92 = .ok (.aload_n 0, 1) := by decide +kernel
theorem dX10_facet_93 : decode cX10_facet 93 = .ok (.getfield 26, 3) := by decide +kernel
theorem dX10_facet_96 : decode cX10_facet 96 = .ok (.iload_n 1, 1) := by decide +kernel
theorem dX10_facet_97 : decode cX10_facet 97 = .ok (.baload, 1) := by decide +kernel
theorem dX10_facet_98 : decode cX10_facet 98 = .ok (.ifCond .eq 7, 3) := by decide +kernel
theorem dX10_facet_101 : decode cX10_facet 101 = .ok (.iconst 1, 1) := by decide +kernel
theorem dX10_facet_102 : decode cX10_facet 102 = .ok (.goto 4, 3) := by decide +kernel
theorem dX10_facet_105 : decode cX10_facet 105 = .ok (.iconst 0, 1) := by decide +kernel
theorem dX10_facet_106 : decode cX10_facet 106 = .ok (.ireturn, 1) := by decide +kernel
theorem dX10_facet_107 : decode cX10_facet 107 = .ok (.aload_n 0, 1) := by decide +kernel
theorem dX10_facet_108 : decode cX10_facet 108 = .ok (.aload_n 0, 1) := by decide +kernel
theorem dX10_facet_109 : decode cX10_facet 109 = .ok (.getfield 13, 3) := by decide +kernel
theorem dX10_facet_112 : decode cX10_facet 112 = .ok (.iload_n 1, 1) := by decide +kernel
theorem dX10_facet_113 : decode cX10_facet 113 = .ok (.iaload, 1) := by decide +kernel
theorem dX10_facet_114 : decode cX10_facet 114 = .ok (.aload_n 0, 1) := by decide +kernel
theorem dX10_facet_115 : decode cX10_facet 115 = .ok (.getfield 17, 3) := by decide +kernel
theorem dX10_facet_118 : decode cX10_facet 118 = .ok (.iload_n 1, 1) := by decide +kernel
theorem dX10_facet_119 : decode cX10_facet 119 = .ok (.iaload, 1) := by decide +kernel
theorem dX10_facet_120 : decode cX10_facet 120 = .ok (.aload_n 0, 1) := by decide +kernel
theorem dX10_facet_121 : decode cX10_facet 121 = .ok (.getfield 20, 3) := by decide +kernel
theorem dX10_facet_124 : decode cX10_facet 124 = .ok (.iload_n 1, 1) := by decide +kernel
theorem dX10_facet_125 : decode cX10_facet 125 = .ok (.iaload, 1) := by decide +kernel
theorem dX10_facet_126 : decode cX10_facet 126 = .ok (.invokevirtual 164, 3) := by decide +kernel
theorem dX10_facet_129 : decode cX10_facet 129 = .ok (.ireturn, 1) := by decide +kernel
theorem dX10_facet_130 : decode cX10_facet 130 = .ok (.aload_n 0, 1) := by decide +kernel
theorem dX10_facet_131 : decode cX10_facet 131 = .ok (.getfield 57, 3) := by decide +kernel
theorem dX10_facet_134 : decode cX10_facet 134 = .ok (.iload_n 1, 1) := by decide +kernel
theorem dX10_facet_135 : decode cX10_facet 135 = .ok (.baload, 1) := by decide +kernel
theorem dX10_facet_136 : decode cX10_facet 136 = .ok (.ifCond .eq 7, 3) := by decide +kernel
theorem dX10_facet_139 : decode cX10_facet 139 = .ok (.iconst 1, 1) := by decide +kernel
theorem dX10_facet_140 : decode cX10_facet 140 = .ok (.goto 4, 3) := by decide +kernel
theorem dX10_facet_143 : decode cX10_facet 143 = .ok (.iconst 0, 1) := by decide +kernel
theorem dX10_facet_144 : decode cX10_facet 144 = .ok (.ireturn, 1) := by decide +kernel
theorem dX10_facet_145 : decode cX10_facet 145 = .ok (.aload_n 0, 1) := by decide +kernel
theorem dX10_facet_146 : decode cX10_facet 146 = .ok (.getfield 60, 3) := by decide +kernel
theorem dX10_facet_149 : decode cX10_facet 149 = .ok (.iload_n 1, 1) := by decide +kernel
theorem dX10_facet_150 : decode cX10_facet 150 = .ok (.baload, 1) := by decide +kernel
theorem dX10_facet_151 : decode cX10_facet 151 = .ok (.ifCond .eq 7, 3) := by decide +kernel
theorem dX10_facet_154 : decode cX10_facet 154 = .ok (.iconst 1, 1) := by decide +kernel
theorem dX10_facet_155 : decode cX10_facet 155 = .ok (.goto 4, 3) := by decide +kernel
theorem dX10_facet_158 : decode cX10_facet 158 = .ok (.iconst 0, 1) := by decide +kernel
theorem dX10_facet_159 : decode cX10_facet 159 = .ok (.ireturn, 1) := by decide +kernel
theorem dX10_facet_160 : decode cX10_facet 160 = .ok (.bipush (-2), 2) := by decide +kernel
theorem dX10_facet_162 : decode cX10_facet 162 = .ok (.ireturn, 1) := by decide +kernel
theorem dX10_at_0 : decode cX10_at 0 = .ok (.aload_n 0, 1) := by decide +kernel
theorem dX10_at_1 : decode cX10_at 1 = .ok (.iconst 0, 1) := by decide +kernel
theorem dX10_at_2 : decode cX10_at 2 = .ok (.putfield 94, 3) := by decide +kernel
theorem dX10_at_5 : decode cX10_at 5 = .ok (.iload_n 3, 1) := by decide +kernel
theorem dX10_at_6 : decode cX10_at 6 = .ok (.i2l, 1) := by decide +kernel
theorem dX10_at_7 : decode cX10_at 7 = .ok (.lconst 0, 1) := by decide +kernel
theorem dX10_at_8 : decode cX10_at 8 = .ok (.ldc2_w 105, 3) := by decide +kernel
theorem dX10_at_11 : decode cX10_at 11 = .ok (.invokestatic 101, 3) := by decide +kernel
theorem dX10_at_14 : decode cX10_at 14 = .ok (.ifCond .ne 6, 3) := by decide +kernel
theorem dX10_at_17 : decode cX10_at 17 = .ok (.bipush (-2), 2) := by decide +kernel
theorem dX10_at_19 : decode cX10_at 19 = .ok (.ireturn, 1) := by decide +kernel
theorem dX10_at_20 : decode cX10_at 20 = .ok (.iconst 0, 1) := by decide +kernel
theorem dX10_at_21 : decode cX10_at 21 = .ok (.istore 5, 2) := by decide +kernel
theorem dX10_at_23 : decode cX10_at 23 = .ok (.iload 5, 2) := by decide +kernel
theorem dX10_at_25 : decode cX10_at 25 = .ok (.aload_n 0, 1) := by decide +kernel
theorem dX10_at_26 : decode cX10_at 26 = .ok (.invokevirtual 97, 3) := by decide +kernel
theorem dX10_at_29 : decode cX10_at 29 = .ok (.if_icmp .ge 36, 3) := by decide +kernel
theorem dX10_at_32 : decode cX10_at 32 = .ok (.aload_n 0, 1) := by decide +kernel
theorem dX10_at_33 : decode cX10_at 33 = .ok (.iload 5, 2) := by decide +kernel
theorem dX10_at_35 : decode cX10_at 35 = .ok (.iload_n 1, 1) := by decide +kernel
theorem dX10_at_36 : decode cX10_at 36 = .ok (.iload_n 2, 1) := by decide +kernel
theorem dX10_at_37 : decode cX10_at 37 = .ok (.iload_n 3, 1) := by decide +kernel
theorem dX10_at_38 : decode cX10_at 38 = .ok (.invokevirtual 131, 3) := by decide +kernel
theorem dX10_at_41 : decode cX10_at 41 = .ok (.ifCond .eq 18, 3) := by decide +kernel
theorem dX10_at_44 : decode cX10_at 44 = .ok (.aload_n 0, 1) := by decide +kernel
theorem dX10_at_45 : decode cX10_at 45 = .ok (.getfield 23, 3) := by decide +kernel
theorem dX10_at_48 : decode cX10_at 48 = .ok (.iload 5, 2) := by decide +kernel
theorem dX10_at_50 : decode cX10_at 50 = .ok (.iaload, 1) := by decide +kernel
theorem dX10_at_51 : decode cX10_at 51 = .ok (.iload 4, 2) := by decide +kernel
theorem dX10_at_53 : decode cX10_at 53 = .ok (.if_icmp .ne 6, 3) := by decide +kernel
theorem dX10_at_56 : decode cX10_at 56 = .ok (.iload 5, 2) := by decide +kernel
theorem dX10_at_58 : decode cX10_at 58 = .ok (.ireturn, 1) := by decide +kernel
theorem dX10_at_59 : decode cX10_at 59 = .ok (.iinc 5 1, 3) := by decide +kernel
theorem dX10_at_62 : decode cX10_at 62 = .ok (.goto (-39), 3) := by decide +kernel
theorem dX10_at_65 : decode cX10_at 65 = .ok (.ldc 135, 2) := by decide +kernel
theorem dX10_at_67 : decode cX10_at 67 = .ok (.ireturn, 1) := by decide +kernel
theorem dX10_places_0 : decode cX10_places 0 = .ok (.aload_n 0, 1) := by decide +kernel
theorem dX10_places_1 : decode cX10_places 1 = .ok (.iconst 0, 1) := by decide +kernel
theorem dX10_places_2 : decode cX10_places 2 = .ok (.putfield 94, 3) := by decide +kernel
theorem dX10_places_5 : decode cX10_places 5 = .ok (.aload_n 0, 1) := by decide +kernel
theorem dX10_places_6 : decode cX10_places 6 = .ok (.invokevirtual 157, 3) := by decide +kernel
theorem dX10_places_9 : decode cX10_places 9 = .ok (.ireturn, 1) := by decide +kernel
theorem dX10_deepest_0 : decode cX10_deepest 0 = .ok (.aload_n 0, 1) := by decide +kernel
theorem dX10_deepest_1 : decode cX10_deepest 1 = .ok (.iconst 0, 1) := by decide +kernel
theorem dX10_deepest_2 : decode cX10_deepest 2 = .ok (.putfield 94, 3) := by decide +kernel
theorem dX10_deepest_5 : decode cX10_deepest 5 = .ok (.iconst 0, 1) := by decide +kernel
theorem dX10_deepest_6 : decode cX10_deepest 6 = .ok (.istore_n 1, 1) := by decide +kernel
theorem dX10_deepest_7 : decode cX10_deepest 7 = .ok (.iconst 0, 1) := by decide +kernel
theorem dX10_deepest_8 : decode cX10_deepest 8 = .ok (.istore_n 2, 1) := by decide +kernel
theorem dX10_deepest_9 : decode cX10_deepest 9 = .ok (.iload_n 2, 1) := by decide +kernel
theorem dX10_deepest_10 : decode cX10_deepest 10 = .ok (.aload_n 0, 1) := by decide +kernel
theorem dX10_deepest_11 : decode cX10_deepest 11 = .ok (.invokevirtual 97, 3) := by decide +kernel
theorem dX10_deepest_14 : decode cX10_deepest 14 = .ok (.if_icmp .ge 34, 3) := by decide +kernel
theorem dX10_deepest_17 : decode cX10_deepest 17 = .ok (.aload_n 0, 1) := by decide +kernel
theorem dX10_deepest_18 : decode cX10_deepest 18 = .ok (.getfield 23, 3) := by decide +kernel
theorem dX10_deepest_21 : decode cX10_deepest 21 = .ok (.iload_n 2, 1) := by decide +kernel
theorem dX10_deepest_22 : decode cX10_deepest 22 = .ok (.iaload, 1) := by decide +kernel
theorem dX10_deepest_23 : decode cX10_deepest 23 = .ok (.iconst 1, 1) := by decide +kernel
theorem dX10_deepest_24 : decode cX10_deepest 24 = .ok (.iadd, 1) := by decide +kernel
theorem dX10_deepest_25 : decode cX10_deepest 25 = .ok (.iload_n 1, 1) := by decide +kernel
theorem dX10_deepest_26 : decode cX10_deepest 26 = .ok (.if_icmp .le 14, 3) := by decide +kernel
theorem dX10_deepest_29 : decode cX10_deepest 29 = .ok (.aload_n 0, 1) := by decide +kernel
theorem dX10_deepest_30 : decode cX10_deepest 30 = .ok (.getfield 23, 3) := by decide +kernel
theorem dX10_deepest_33 : decode cX10_deepest 33 = .ok (.iload_n 2, 1) := by decide +kernel
theorem dX10_deepest_34 : decode cX10_deepest 34 = .ok (.iaload, 1) := by decide +kernel
theorem dX10_deepest_35 : decode cX10_deepest 35 = .ok (.iconst 1, 1) := by decide +kernel
theorem dX10_deepest_36 : decode cX10_deepest 36 = .ok (.iadd, 1) := by decide +kernel
theorem dX10_deepest_37 : decode cX10_deepest 37 = .ok (.goto 4, 3) := by decide +kernel
theorem dX10_deepest_40 : decode cX10_deepest 40 = .ok (.iload_n 1, 1) := by decide +kernel
theorem dX10_deepest_41 : decode cX10_deepest 41 = .ok (.istore_n 1, 1) := by decide +kernel
theorem dX10_deepest_42 : decode cX10_deepest 42 = .ok (.iinc 2 1, 3) := by decide +kernel
theorem dX10_deepest_45 : decode cX10_deepest 45 = .ok (.goto (-36), 3) := by decide +kernel
theorem dX10_deepest_48 : decode cX10_deepest 48 = .ok (.iload_n 1, 1) := by decide +kernel
theorem dX10_deepest_49 : decode cX10_deepest 49 = .ok (.ireturn, 1) := by decide +kernel
theorem dX10_reach_0 : decode cX10_reach 0 = .ok (.aload_n 0, 1) := by decide +kernel
theorem dX10_reach_1 : decode cX10_reach 1 = .ok (.iconst 0, 1) := by decide +kernel
theorem dX10_reach_2 : decode cX10_reach 2 = .ok (.putfield 94, 3) := by decide +kernel
theorem dX10_reach_5 : decode cX10_reach 5 = .ok (.iload_n 1, 1) := by decide +kernel
theorem dX10_reach_6 : decode cX10_reach 6 = .ok (.i2l, 1) := by decide +kernel
theorem dX10_reach_7 : decode cX10_reach 7 = .ok (.lconst 0, 1) := by decide +kernel
theorem dX10_reach_8 : decode cX10_reach 8 = .ok (.ldc2_w 105, 3) := by decide +kernel
theorem dX10_reach_11 : decode cX10_reach 11 = .ok (.invokestatic 101, 3) := by decide +kernel
theorem dX10_reach_14 : decode cX10_reach 14 = .ok (.ifCond .ne 6, 3) := by decide +kernel
theorem dX10_reach_17 : decode cX10_reach 17 = .ok (.bipush (-2), 2) := by decide +kernel
theorem dX10_reach_19 : decode cX10_reach 19 = .ok (.ireturn, 1) := by decide +kernel
theorem dX10_reach_20 : decode cX10_reach 20 = .ok (.iload_n 1, 1) := by decide +kernel
theorem dX10_reach_21 : decode cX10_reach 21 = .ok (.iconst 2, 1) := by decide +kernel
theorem dX10_reach_22 : decode cX10_reach 22 = .ok (.if_icmp .ge 12, 3) := by decide +kernel
theorem dX10_reach_25 : decode cX10_reach 25 = .ok (.aload_n 0, 1) := by decide +kernel
theorem dX10_reach_26 : decode cX10_reach 26 = .ok (.getfield 13, 3) := by decide +kernel
theorem dX10_reach_29 : decode cX10_reach 29 = .ok (.iconst 0, 1) := by decide +kernel
theorem dX10_reach_30 : decode cX10_reach 30 = .ok (.iaload, 1) := by decide +kernel
theorem dX10_reach_31 : decode cX10_reach 31 = .ok (.goto 9, 3) := by decide +kernel
theorem dX10_reach_34 : decode cX10_reach 34 = .ok (.aload_n 0, 1) := by decide +kernel
theorem dX10_reach_35 : decode cX10_reach 35 = .ok (.getfield 17, 3) := by decide +kernel
theorem dX10_reach_38 : decode cX10_reach 38 = .ok (.iconst 0, 1) := by decide +kernel
theorem dX10_reach_39 : decode cX10_reach 39 = .ok (.iaload, 1) := by decide +kernel
theorem dX10_reach_40 : decode cX10_reach 40 = .ok (.istore_n 2, 1) := by decide +kernel
theorem dX10_reach_41 : decode cX10_reach 41 = .ok (.iconst 0, 1) := by decide +kernel
theorem dX10_reach_42 : decode cX10_reach 42 = .ok (.istore_n 3, 1) := by decide +kernel
theorem dX10_reach_43 : decode cX10_reach 43 = .ok (.iload_n 3, 1) := by decide +kernel
theorem dX10_reach_44 : decode cX10_reach 44 = .ok (.aload_n 0, 1) := by decide +kernel
theorem dX10_reach_45 : decode cX10_reach 45 = .ok (.invokevirtual 97, 3) := by decide +kernel
theorem dX10_reach_48 : decode cX10_reach 48 = .ok (.if_icmp .ge 65, 3) := by decide +kernel
theorem dX10_reach_51 : decode cX10_reach 51 = .ok (.iload_n 1, 1) := by decide +kernel
theorem dX10_reach_52 : decode cX10_reach 52 = .ok (.iconst 2, 1) := by decide +kernel
theorem dX10_reach_53 : decode cX10_reach 53 = .ok (.if_icmp .ge 12, 3) := by decide +kernel
theorem dX10_reach_56 : decode cX10_reach 56 = .ok (.aload_n 0, 1) := by decide +kernel
theorem dX10_reach_57 : decode cX10_reach 57 = .ok (.getfield 13, 3) := by decide +kernel
theorem dX10_reach_60 : decode cX10_reach 60 = .ok (.iload_n 3, 1) := by decide +kernel
theorem dX10_reach_61 : decode cX10_reach 61 = .ok (.iaload, 1) := by decide +kernel
theorem dX10_reach_62 : decode cX10_reach 62 = .ok (.goto 9, 3) := by decide +kernel
theorem dX10_reach_65 : decode cX10_reach 65 = .ok (.aload_n 0, 1) := by decide +kernel
theorem dX10_reach_66 : decode cX10_reach 66 = .ok (.getfield 17, 3) := by decide +kernel
theorem dX10_reach_69 : decode cX10_reach 69 = .ok (.iload_n 3, 1) := by decide +kernel
theorem dX10_reach_70 : decode cX10_reach 70 = .ok (.iaload, 1) := by decide +kernel
theorem dX10_reach_71 : decode cX10_reach 71 = .ok (.istore 4, 2) := by decide +kernel
theorem dX10_reach_73 : decode cX10_reach 73 = .ok (.iload_n 1, 1) := by decide +kernel
theorem dX10_reach_74 : decode cX10_reach 74 = .ok (.iconst 2, 1) := by decide +kernel
theorem dX10_reach_75 : decode cX10_reach 75 = .ok (.irem, 1) := by decide +kernel
theorem dX10_reach_76 : decode cX10_reach 76 = .ok (.ifCond .ne 18, 3) := by decide +kernel
theorem dX10_reach_79 : decode cX10_reach 79 = .ok (.iload 4, 2) := by decide +kernel
theorem dX10_reach_81 : decode cX10_reach 81 = .ok (.iload_n 2, 1) := by decide +kernel
theorem dX10_reach_82 : decode cX10_reach 82 = .ok (.if_icmp .ge 8, 3) := by decide +kernel
theorem dX10_reach_85 : decode cX10_reach 85 = .ok (.iload 4, 2) := by decide +kernel
theorem dX10_reach_87 : decode cX10_reach 87 = .ok (.goto 19, 3) := by decide +kernel
theorem dX10_reach_90 : decode cX10_reach 90 = .ok (.iload_n 2, 1) := by decide +kernel
theorem dX10_reach_91 : decode cX10_reach 91 = .ok (.goto 15, 3) := by decide +kernel
theorem dX10_reach_94 : decode cX10_reach 94 = .ok (.iload 4, 2) := by decide +kernel
theorem dX10_reach_96 : decode cX10_reach 96 = .ok (.iload_n 2, 1) := by decide +kernel
theorem dX10_reach_97 : decode cX10_reach 97 = .ok (.if_icmp .le 8, 3) := by decide +kernel
theorem dX10_reach_100 : decode cX10_reach 100 = .ok (.iload 4, 2) := by decide +kernel
theorem dX10_reach_102 : decode cX10_reach 102 = .ok (.goto 4, 3) := by decide +kernel
theorem dX10_reach_105 : decode cX10_reach 105 = .ok (.iload_n 2, 1) := by decide +kernel
theorem dX10_reach_106 : decode cX10_reach 106 = .ok (.istore_n 2, 1) := by decide +kernel
theorem dX10_reach_107 : decode cX10_reach 107 = .ok (.iinc 3 1, 3) := by decide +kernel
theorem dX10_reach_110 : decode cX10_reach 110 = .ok (.goto (-67), 3) := by decide +kernel
theorem dX10_reach_113 : decode cX10_reach 113 = .ok (.iload_n 2, 1) := by decide +kernel
theorem dX10_reach_114 : decode cX10_reach 114 = .ok (.ireturn, 1) := by decide +kernel
theorem dX10_folds_0 : decode cX10_folds 0 = .ok (.aload_n 0, 1) := by decide +kernel
theorem dX10_folds_1 : decode cX10_folds 1 = .ok (.iconst 0, 1) := by decide +kernel
theorem dX10_folds_2 : decode cX10_folds 2 = .ok (.putfield 94, 3) := by decide +kernel
theorem dX10_folds_5 : decode cX10_folds 5 = .ok (.aload_n 0, 1) := by decide +kernel
theorem dX10_folds_6 : decode cX10_folds 6 = .ok (.getfield 111, 3) := by decide +kernel
theorem dX10_folds_9 : decode cX10_folds 9 = .ok (.ireturn, 1) := by decide +kernel
theorem dX10_crease_0 : decode cX10_crease 0 = .ok (.aload_n 0, 1) := by decide +kernel
theorem dX10_crease_1 : decode cX10_crease 1 = .ok (.iconst 0, 1) := by decide +kernel
theorem dX10_crease_2 : decode cX10_crease 2 = .ok (.putfield 94, 3) := by decide +kernel
theorem dX10_crease_5 : decode cX10_crease 5 = .ok (.aload_n 0, 1) := by decide +kernel
theorem dX10_crease_6 : decode cX10_crease 6 = .ok (.iload_n 1, 1) := by decide +kernel
theorem dX10_crease_7 : decode cX10_crease 7 = .ok (.invokevirtual 160, 3) := by decide +kernel
theorem dX10_crease_10 : decode cX10_crease 10 = .ok (.ifCond .eq 5, 3) := by decide +kernel
theorem dX10_crease_13 : decode cX10_crease 13 = .ok (.iconst (-1), 1) := by decide +kernel
theorem dX10_crease_14 : decode cX10_crease 14 = .ok (.ireturn, 1) := by decide +kernel
theorem dX10_crease_15 : decode cX10_crease 15 = .ok (.iload_n 2, 1) := by decide +kernel
theorem dX10_crease_16 : decode cX10_crease 16 = .ok (.i2l, 1) := by decide +kernel
theorem dX10_crease_17 : decode cX10_crease 17 = .ok (.lconst 0, 1) := by decide +kernel
theorem dX10_crease_18 : decode cX10_crease 18 = .ok (.ldc2_w 168, 3) := by decide +kernel
theorem dX10_crease_21 : decode cX10_crease 21 = .ok (.invokestatic 101, 3) := by decide +kernel
theorem dX10_crease_24 : decode cX10_crease 24 = .ok (.ifCond .ne 6, 3) := by decide +kernel
theorem dX10_crease_27 : decode cX10_crease 27 = .ok (.bipush (-2), 2) := by decide +kernel
theorem dX10_crease_29 : decode cX10_crease 29 = .ok (.ireturn, 1) := by decide +kernel
theorem dX10_crease_30 : decode cX10_crease 30 = .ok (.aload_n 0, 1) := by decide +kernel
theorem dX10_crease_31 : decode cX10_crease 31 = .ok (.iload_n 1, 1) := by decide +kernel
theorem dX10_crease_32 : decode cX10_crease 32 = .ok (.iload_n 2, 1) := by decide +kernel
theorem dX10_crease_33 : decode cX10_crease 33 = .ok (.invokevirtual 149, 3) := by decide +kernel
theorem dX10_crease_36 : decode cX10_crease 36 = .ok (.ldc 135, 2) := by decide +kernel
theorem dX10_crease_38 : decode cX10_crease 38 = .ok (.if_icmp .ne 8, 3) := by decide +kernel
theorem dX10_crease_41 : decode cX10_crease 41 = .ok (.ldc 135, 2) := by decide +kernel
theorem dX10_crease_43 : decode cX10_crease 43 = .ok (.goto 13, 3) := by decide +kernel
theorem dX10_crease_46 : decode cX10_crease 46 = .ok (.aload_n 0, 1) := by decide +kernel
theorem dX10_crease_47 : decode cX10_crease 47 = .ok (.getfield 30, 3) := by decide +kernel
theorem dX10_crease_50 : decode cX10_crease 50 = .ok (.iconst 3, 1) := by decide +kernel
theorem dX10_crease_51 : decode cX10_crease 51 = .ok (.iload_n 1, 1) := by decide +kernel
theorem dX10_crease_52 : decode cX10_crease 52 = .ok (.imul, 1) := by decide +kernel
theorem dX10_crease_53 : decode cX10_crease 53 = .ok (.iload_n 2, 1) := by decide +kernel
theorem dX10_crease_54 : decode cX10_crease 54 = .ok (.iadd, 1) := by decide +kernel
theorem dX10_crease_55 : decode cX10_crease 55 = .ok (.iaload, 1) := by decide +kernel
theorem dX10_crease_56 : decode cX10_crease 56 = .ok (.ireturn, 1) := by decide +kernel
theorem dX10_neighbour_0 : decode cX10_neighbour 0 = .ok (.aload_n 0, 1) := by decide +kernel
theorem dX10_neighbour_1 : decode cX10_neighbour 1 = .ok (.iconst 0, 1) := by decide +kernel
theorem dX10_neighbour_2 : decode cX10_neighbour 2 = .ok (.putfield 94, 3) := by decide +kernel
theorem dX10_neighbour_5 : decode cX10_neighbour 5 = .ok (.aload_n 0, 1) := by decide +kernel
theorem dX10_neighbour_6 : decode cX10_neighbour 6 = .ok (.iload_n 1, 1) := by decide +kernel
theorem dX10_neighbour_7 : decode cX10_neighbour 7 = .ok (.invokevirtual 160, 3) := by decide +kernel
theorem dX10_neighbour_10 : decode cX10_neighbour 10 = .ok (.ifCond .eq 5, 3) := by decide +kernel
theorem dX10_neighbour_13 : decode cX10_neighbour 13 = .ok (.iconst (-1), 1) := by decide +kernel
theorem dX10_neighbour_14 : decode cX10_neighbour 14 = .ok (.ireturn, 1) := by decide +kernel
theorem dX10_neighbour_15 : decode cX10_neighbour 15 = .ok (.iload_n 2, 1) := by decide +kernel
theorem dX10_neighbour_16 : decode cX10_neighbour 16 = .ok (.i2l, 1) := by decide +kernel
theorem dX10_neighbour_17 : decode cX10_neighbour 17 = .ok (.lconst 0, 1) := by decide +kernel
theorem dX10_neighbour_18 : decode cX10_neighbour 18 = .ok (.ldc2_w 168, 3) := by decide +kernel
theorem dX10_neighbour_21 : decode cX10_neighbour 21 = .ok (.invokestatic 101, 3) := by decide +kernel
theorem dX10_neighbour_24 : decode cX10_neighbour 24 = .ok (.ifCond .eq 12, 3) := by decide +kernel
theorem dX10_neighbour_27 : decode cX10_neighbour 27 = .ok (.aload_n 0, 1) := by decide +kernel
theorem dX10_neighbour_28 : decode cX10_neighbour 28 = .ok (.iload_n 1, 1) := by decide +kernel
theorem dX10_neighbour_29 : decode cX10_neighbour 29 = .ok (.iload_n 2, 1) := by decide +kernel
theorem dX10_neighbour_30 : decode cX10_neighbour 30 = .ok (.invokevirtual 149, 3) := by decide +kernel
theorem dX10_neighbour_33 : decode cX10_neighbour 33 = .ok (.goto 5, 3) := by decide +kernel
theorem dX10_neighbour_36 : decode cX10_neighbour 36 = .ok (.bipush (-2), 2) := by decide +kernel
theorem dX10_neighbour_38 : decode cX10_neighbour 38 = .ok (.ireturn, 1) := by decide +kernel
theorem dX10_creases_0 : decode cX10_creases 0 = .ok (.aload_n 0, 1) := by decide +kernel
theorem dX10_creases_1 : decode cX10_creases 1 = .ok (.iconst 0, 1) := by decide +kernel
theorem dX10_creases_2 : decode cX10_creases 2 = .ok (.putfield 94, 3) := by decide +kernel
theorem dX10_creases_5 : decode cX10_creases 5 = .ok (.iconst 0, 1) := by decide +kernel
theorem dX10_creases_6 : decode cX10_creases 6 = .ok (.istore_n 2, 1) := by decide +kernel
theorem dX10_creases_7 : decode cX10_creases 7 = .ok (.iconst 0, 1) := by decide +kernel
theorem dX10_creases_8 : decode cX10_creases 8 = .ok (.istore_n 3, 1) := by decide +kernel
theorem dX10_creases_9 : decode cX10_creases 9 = .ok (.iload_n 3, 1) := by decide +kernel
theorem dX10_creases_10 : decode cX10_creases 10 = .ok (.aload_n 0, 1) := by decide +kernel
theorem dX10_creases_11 : decode cX10_creases 11 = .ok (.invokevirtual 97, 3) := by decide +kernel
theorem dX10_creases_14 : decode cX10_creases 14 = .ok (.if_icmp .ge 77, 3) := by decide +kernel
theorem dX10_creases_17 : decode cX10_creases 17 = .ok (.iconst 0, 1) := by decide +kernel
theorem dX10_creases_18 : decode cX10_creases 18 = .ok (.istore 4, 2) := by decide +kernel
theorem dX10_creases_20 : decode cX10_creases 20 = .ok (.iload 4, 2) := by decide +kernel
theorem dX10_creases_22 : decode cX10_creases 22 = .ok (.iconst 3, 1) := by decide +kernel
theorem dX10_creases_23 : decode cX10_creases 23 = .ok (.if_icmp .ge 62, 3) := by decide +kernel
theorem dX10_creases_26 : decode cX10_creases 26 = .ok (.aload_n 0, 1) := by decide +kernel
theorem dX10_creases_27 : decode cX10_creases 27 = .ok (.iload_n 3, 1) := by decide +kernel
theorem dX10_creases_28 : decode cX10_creases 28 = .ok (.iload 4, 2) := by decide +kernel
theorem dX10_creases_30 : decode cX10_creases 30 = .ok (.invokevirtual 149, 3) := by decide +kernel
theorem dX10_creases_33 : decode cX10_creases 33 = .ok (.istore 5, 2) := by decide +kernel
theorem dX10_creases_35 : decode cX10_creases 35 = .ok (.iload_n 2, 1) := by decide +kernel
theorem dX10_creases_36 : decode cX10_creases 36 = .ok (.iload 5, 2) := by decide +kernel
theorem dX10_creases_38 : decode cX10_creases 38 = .ok (.ldc 135, 2) := by decide +kernel
theorem dX10_creases_40 : decode cX10_creases 40 = .ok (.if_icmp .eq 36, 3) := by decide +kernel
theorem dX10_creases_43 : decode cX10_creases 43 = .ok (.iload_n 3, 1) := by decide +kernel
theorem dX10_creases_44 : decode cX10_creases 44 = .ok (.iload 5, 2) := by decide +kernel
theorem dX10_creases_46 : decode cX10_creases 46 = .ok (.if_icmp .ge 30, 3) := by decide +kernel
theorem dX10_creases_49 : decode cX10_creases 49 = .ok (.aload_n 0, 1) := by decide +kernel
theorem dX10_creases_50 : decode cX10_creases 50 = .ok (.getfield 30, 3) := by decide +kernel
theorem dX10_creases_53 : decode cX10_creases 53 = .ok (.iconst 3, 1) := by decide +kernel
theorem dX10_creases_54 : decode cX10_creases 54 = .ok (.iload_n 3, 1) := by decide +kernel
theorem dX10_creases_55 : decode cX10_creases 55 = .ok (.imul, 1) := by decide +kernel
theorem dX10_creases_56 : decode cX10_creases 56 = .ok (.iload 4, 2) := by decide +kernel
theorem dX10_creases_58 : decode cX10_creases 58 = .ok (.iadd, 1) := by decide +kernel
theorem dX10_creases_59 : decode cX10_creases 59 = .ok (.iaload, 1) := by decide +kernel
theorem dX10_creases_60 : decode cX10_creases 60 = .ok (.iload_n 1, 1) := by decide +kernel
theorem dX10_creases_61 : decode cX10_creases 61 = .ok (.ifCond .eq 7, 3) := by decide +kernel
theorem dX10_creases_64 : decode cX10_creases 64 = .ok (.iconst 2, 1) := by decide +kernel
theorem dX10_creases_65 : decode cX10_creases 65 = .ok (.goto 4, 3) := by decide +kernel
theorem dX10_creases_68 : decode cX10_creases 68 = .ok (.iconst 1, 1) := by decide +kernel
theorem dX10_creases_69 : decode cX10_creases 69 = .ok (.if_icmp .ne 7, 3) := by decide +kernel
theorem dX10_creases_72 : decode cX10_creases 72 = .ok (.iconst 1, 1) := by decide +kernel
theorem dX10_creases_73 : decode cX10_creases 73 = .ok (.goto 4, 3) := by decide +kernel
theorem dX10_creases_76 : decode cX10_creases 76 = .ok (.iconst 0, 1) := by decide +kernel
theorem dX10_creases_77 : decode cX10_creases 77 = .ok (.iadd, 1) := by decide +kernel
theorem dX10_creases_78 : decode cX10_creases 78 = .ok (.istore_n 2, 1) := by decide +kernel
theorem dX10_creases_79 : decode cX10_creases 79 = .ok (.iinc 4 1, 3) := by decide +kernel
theorem dX10_creases_82 : decode cX10_creases 82 = .ok (.goto (-62), 3) := by decide +kernel
theorem dX10_creases_85 : decode cX10_creases 85 = .ok (.iinc 3 1, 3) := by decide +kernel
theorem dX10_creases_88 : decode cX10_creases 88 = .ok (.goto (-79), 3) := by decide +kernel
theorem dX10_creases_91 : decode cX10_creases 91 = .ok (.iload_n 2, 1) := by decide +kernel
theorem dX10_creases_92 : decode cX10_creases 92 = .ok (.ireturn, 1) := by decide +kernel
theorem dX10_slant_0 : decode cX10_slant 0 = .ok (.iload_n 1, 1) := by decide +kernel
theorem dX10_slant_1 : decode cX10_slant 1 = .ok (.i2l, 1) := by decide +kernel
theorem dX10_slant_2 : decode cX10_slant 2 = .ok (.lconst 0, 1) := by decide +kernel
theorem dX10_slant_3 : decode cX10_slant 3 = .ok (.aload_n 0, 1) := by decide +kernel
theorem dX10_slant_4 : decode cX10_slant 4 = .ok (.getfield 7, 3) := by decide +kernel
theorem dX10_slant_7 : decode cX10_slant 7 = .ok (.iconst 1, 1) := by decide +kernel
theorem dX10_slant_8 : decode cX10_slant 8 = .ok (.isub, 1) := by decide +kernel
theorem dX10_slant_9 : decode cX10_slant 9 = .ok (.i2l, 1) := by decide +kernel
theorem dX10_slant_10 : decode cX10_slant 10 = .ok (.invokestatic 101, 3) := by decide +kernel
theorem dX10_slant_13 : decode cX10_slant 13 = .ok (.ifCond .eq 43, 3) := by decide +kernel
theorem dX10_slant_16 : decode cX10_slant 16 = .ok (.iload_n 2, 1) := by decide +kernel
theorem dX10_slant_17 : decode cX10_slant 17 = .ok (.i2l, 1) := by decide +kernel
theorem dX10_slant_18 : decode cX10_slant 18 = .ok (.lconst 0, 1) := by decide +kernel
theorem dX10_slant_19 : decode cX10_slant 19 = .ok (.aload_n 0, 1) := by decide +kernel
theorem dX10_slant_20 : decode cX10_slant 20 = .ok (.getfield 7, 3) := by decide +kernel
theorem dX10_slant_23 : decode cX10_slant 23 = .ok (.iconst 1, 1) := by decide +kernel
theorem dX10_slant_24 : decode cX10_slant 24 = .ok (.isub, 1) := by decide +kernel
theorem dX10_slant_25 : decode cX10_slant 25 = .ok (.i2l, 1) := by decide +kernel
theorem dX10_slant_26 : decode cX10_slant 26 = .ok (.invokestatic 101, 3) := by decide +kernel
theorem dX10_slant_29 : decode cX10_slant 29 = .ok (.ifCond .eq 27, 3) := by decide +kernel
theorem dX10_slant_32 : decode cX10_slant 32 = .ok (.aload_n 0, 1) := by decide +kernel
theorem dX10_slant_33 : decode cX10_slant 33 = .ok (.getfield 30, 3) := by decide +kernel
theorem dX10_slant_36 : decode cX10_slant 36 = .ok (.iconst 3, 1) := by decide +kernel
theorem dX10_slant_37 : decode cX10_slant 37 = .ok (.iconst 4, 1) := by decide +kernel
theorem dX10_slant_38 : decode cX10_slant 38 = .ok (.iload_n 2, 1) := by decide +kernel
theorem dX10_slant_39 : decode cX10_slant 39 = .ok (.aload_n 0, 1) := by decide +kernel
theorem dX10_slant_40 : decode cX10_slant 40 = .ok (.getfield 7, 3) := by decide +kernel
theorem dX10_slant_43 : decode cX10_slant 43 = .ok (.imul, 1) := by decide +kernel
theorem dX10_slant_44 : decode cX10_slant 44 = .ok (.iload_n 1, 1) := by decide +kernel
theorem dX10_slant_45 : decode cX10_slant 45 = .ok (.iadd, 1) := by decide +kernel
theorem dX10_slant_46 : decode cX10_slant 46 = .ok (.imul, 1) := by decide +kernel
theorem dX10_slant_47 : decode cX10_slant 47 = .ok (.iload_n 3, 1) := by decide +kernel
theorem dX10_slant_48 : decode cX10_slant 48 = .ok (.iadd, 1) := by decide +kernel
theorem dX10_slant_49 : decode cX10_slant 49 = .ok (.imul, 1) := by decide +kernel
theorem dX10_slant_50 : decode cX10_slant 50 = .ok (.iconst 1, 1) := by decide +kernel
theorem dX10_slant_51 : decode cX10_slant 51 = .ok (.iadd, 1) := by decide +kernel
theorem dX10_slant_52 : decode cX10_slant 52 = .ok (.iaload, 1) := by decide +kernel
theorem dX10_slant_53 : decode cX10_slant 53 = .ok (.goto 4, 3) := by decide +kernel
theorem dX10_slant_56 : decode cX10_slant 56 = .ok (.iconst 0, 1) := by decide +kernel
theorem dX10_slant_57 : decode cX10_slant 57 = .ok (.ireturn, 1) := by decide +kernel
theorem dX10_outer_0 : decode cX10_outer 0 = .ok (.iload_n 1, 1) := by decide +kernel
theorem dX10_outer_1 : decode cX10_outer 1 = .ok (.i2l, 1) := by decide +kernel
theorem dX10_outer_2 : decode cX10_outer 2 = .ok (.lconst 0, 1) := by decide +kernel
theorem dX10_outer_3 : decode cX10_outer 3 = .ok (.aload_n 0, 1) := by decide +kernel
theorem dX10_outer_4 : decode cX10_outer 4 = .ok (.getfield 7, 3) := by decide +kernel
theorem dX10_outer_7 : decode cX10_outer 7 = .ok (.iconst 1, 1) := by decide +kernel
theorem dX10_outer_8 : decode cX10_outer 8 = .ok (.isub, 1) := by decide +kernel
theorem dX10_outer_9 : decode cX10_outer 9 = .ok (.i2l, 1) := by decide +kernel
theorem dX10_outer_10 : decode cX10_outer 10 = .ok (.invokestatic 101, 3) := by decide +kernel
theorem dX10_outer_13 : decode cX10_outer 13 = .ok (.ifCond .eq 63, 3) := by decide +kernel
theorem dX10_outer_16 : decode cX10_outer 16 = .ok (.iload_n 2, 1) := by decide +kernel
theorem dX10_outer_17 : decode cX10_outer 17 = .ok (.i2l, 1) := by decide +kernel
theorem dX10_outer_18 : decode cX10_outer 18 = .ok (.lconst 0, 1) := by decide +kernel
theorem dX10_outer_19 : decode cX10_outer 19 = .ok (.aload_n 0, 1) := by decide +kernel
theorem dX10_outer_20 : decode cX10_outer 20 = .ok (.getfield 7, 3) := by decide +kernel
theorem dX10_outer_23 : decode cX10_outer 23 = .ok (.iconst 1, 1) := by decide +kernel
theorem dX10_outer_24 : decode cX10_outer 24 = .ok (.isub, 1) := by decide +kernel
theorem dX10_outer_25 : decode cX10_outer 25 = .ok (.i2l, 1) := by decide +kernel
theorem dX10_outer_26 : decode cX10_outer 26 = .ok (.invokestatic 101, 3) := by decide +kernel
theorem dX10_outer_29 : decode cX10_outer 29 = .ok (.ifCond .eq 47, 3) := by decide +kernel
theorem dX10_outer_32 : decode cX10_outer 32 = .ok (.aload_n 0, 1) := by decide +kernel
theorem dX10_outer_33 : decode cX10_outer 33 = .ok (.iconst 4, 1) := by decide +kernel
theorem dX10_outer_34 : decode cX10_outer 34 = .ok (.iload_n 2, 1) := by decide +kernel
theorem dX10_outer_35 : decode cX10_outer 35 = .ok (.aload_n 0, 1) := by decide +kernel
theorem dX10_outer_36 : decode cX10_outer 36 = .ok (.getfield 7, 3) := by decide +kernel
theorem dX10_outer_39 : decode cX10_outer 39 = .ok (.imul, 1) := by decide +kernel
theorem dX10_outer_40 : decode cX10_outer 40 = .ok (.iload_n 1, 1) := by decide +kernel
theorem dX10_outer_41 : decode cX10_outer 41 = .ok (.iadd, 1) := by decide +kernel
theorem dX10_outer_42 : decode cX10_outer 42 = .ok (.imul, 1) := by decide +kernel
theorem dX10_outer_43 : decode cX10_outer 43 = .ok (.iload_n 3, 1) := by decide +kernel
theorem dX10_outer_44 : decode cX10_outer 44 = .ok (.iadd, 1) := by decide +kernel
theorem dX10_outer_45 : decode cX10_outer 45 = .ok (.iconst 0, 1) := by decide +kernel
theorem dX10_outer_46 : decode cX10_outer 46 = .ok (.invokevirtual 149, 3) := by decide +kernel
theorem dX10_outer_49 : decode cX10_outer 49 = .ok (.ldc 135, 2) := by decide +kernel
theorem dX10_outer_51 : decode cX10_outer 51 = .ok (.if_icmp .eq 25, 3) := by decide +kernel
theorem dX10_outer_54 : decode cX10_outer 54 = .ok (.aload_n 0, 1) := by decide +kernel
theorem dX10_outer_55 : decode cX10_outer 55 = .ok (.getfield 30, 3) := by decide +kernel
theorem dX10_outer_58 : decode cX10_outer 58 = .ok (.iconst 3, 1) := by decide +kernel
theorem dX10_outer_59 : decode cX10_outer 59 = .ok (.iconst 4, 1) := by decide +kernel
theorem dX10_outer_60 : decode cX10_outer 60 = .ok (.iload_n 2, 1) := by decide +kernel
theorem dX10_outer_61 : decode cX10_outer 61 = .ok (.aload_n 0, 1) := by decide +kernel
theorem dX10_outer_62 : decode cX10_outer 62 = .ok (.getfield 7, 3) := by decide +kernel
theorem dX10_outer_65 : decode cX10_outer 65 = .ok (.imul, 1) := by decide +kernel
theorem dX10_outer_66 : decode cX10_outer 66 = .ok (.iload_n 1, 1) := by decide +kernel
theorem dX10_outer_67 : decode cX10_outer 67 = .ok (.iadd, 1) := by decide +kernel
theorem dX10_outer_68 : decode cX10_outer 68 = .ok (.imul, 1) := by decide +kernel
theorem dX10_outer_69 : decode cX10_outer 69 = .ok (.iload_n 3, 1) := by decide +kernel
theorem dX10_outer_70 : decode cX10_outer 70 = .ok (.iadd, 1) := by decide +kernel
theorem dX10_outer_71 : decode cX10_outer 71 = .ok (.imul, 1) := by decide +kernel
theorem dX10_outer_72 : decode cX10_outer 72 = .ok (.iaload, 1) := by decide +kernel
theorem dX10_outer_73 : decode cX10_outer 73 = .ok (.goto 4, 3) := by decide +kernel
theorem dX10_outer_76 : decode cX10_outer 76 = .ok (.iconst 0, 1) := by decide +kernel
theorem dX10_outer_77 : decode cX10_outer 77 = .ok (.ireturn, 1) := by decide +kernel
theorem dX10_ends_0 : decode cX10_ends 0 = .ok (.iload_n 3, 1) := by decide +kernel
theorem dX10_ends_1 : decode cX10_ends 1 = .ok (.ifCond .eq 22, 3) := by decide +kernel
theorem dX10_ends_4 : decode cX10_ends 4 = .ok (.iload 4, 2) := by decide +kernel
theorem dX10_ends_6 : decode cX10_ends 6 = .ok (.iconst 4, 1) := by decide +kernel
theorem dX10_ends_7 : decode cX10_ends 7 = .ok (.if_icmp .ge 14, 3) := by decide +kernel
theorem dX10_ends_10 : decode cX10_ends 10 = .ok (.aload_n 0, 1) := by decide +kernel
theorem dX10_ends_11 : decode cX10_ends 11 = .ok (.iload_n 1, 1) := by decide +kernel
theorem dX10_ends_12 : decode cX10_ends 12 = .ok (.iload_n 2, 1) := by decide +kernel
theorem dX10_ends_13 : decode cX10_ends 13 = .ok (.iload 4, 2) := by decide +kernel
theorem dX10_ends_15 : decode cX10_ends 15 = .ok (.invokevirtual 170, 3) := by decide +kernel
theorem dX10_ends_18 : decode cX10_ends 18 = .ok (.goto 4, 3) := by decide +kernel
theorem dX10_ends_21 : decode cX10_ends 21 = .ok (.iconst 0, 1) := by decide +kernel
theorem dX10_ends_22 : decode cX10_ends 22 = .ok (.ireturn, 1) := by decide +kernel
theorem dX10_ends_23 : decode cX10_ends 23 = .ok (.iload 4, 2) := by decide +kernel
theorem dX10_ends_25 : decode cX10_ends 25 = .ok (.tableswitch 109 0 6 #[43, 51, 61, 73, 83, 91, 101], 43) := by decide +kernel
theorem dX10_ends_68 : decode cX10_ends 68 = .ok (.aload_n 0, 1) := by decide +kernel
theorem dX10_ends_69 : decode cX10_ends 69 = .ok (.iload_n 1, 1) := by decide +kernel
theorem dX10_ends_70 : decode cX10_ends 70 = .ok (.iload_n 2, 1) := by decide +kernel
theorem dX10_ends_71 : decode cX10_ends 71 = .ok (.iconst 3, 1) := by decide +kernel
theorem dX10_ends_72 : decode cX10_ends 72 = .ok (.invokevirtual 170, 3) := by decide +kernel
theorem dX10_ends_75 : decode cX10_ends 75 = .ok (.ireturn, 1) := by decide +kernel
theorem dX10_ends_76 : decode cX10_ends 76 = .ok (.aload_n 0, 1) := by decide +kernel
theorem dX10_ends_77 : decode cX10_ends 77 = .ok (.iload_n 1, 1) := by decide +kernel
theorem dX10_ends_78 : decode cX10_ends 78 = .ok (.iconst 1, 1) := by decide +kernel
theorem dX10_ends_79 : decode cX10_ends 79 = .ok (.isub, 1) := by decide +kernel
theorem dX10_ends_80 : decode cX10_ends 80 = .ok (.iload_n 2, 1) := by decide +kernel
theorem dX10_ends_81 : decode cX10_ends 81 = .ok (.iconst 0, 1) := by decide +kernel
theorem dX10_ends_82 : decode cX10_ends 82 = .ok (.invokevirtual 170, 3) := by decide +kernel
theorem dX10_ends_85 : decode cX10_ends 85 = .ok (.ireturn, 1) := by decide +kernel
theorem dX10_ends_86 : decode cX10_ends 86 = .ok (.aload_n 0, 1) := by decide +kernel
theorem dX10_ends_87 : decode cX10_ends 87 = .ok (.iload_n 1, 1) := by decide +kernel
theorem dX10_ends_88 : decode cX10_ends 88 = .ok (.iconst 1, 1) := by decide +kernel
theorem dX10_ends_89 : decode cX10_ends 89 = .ok (.isub, 1) := by decide +kernel
theorem dX10_ends_90 : decode cX10_ends 90 = .ok (.iload_n 2, 1) := by decide +kernel
theorem dX10_ends_91 : decode cX10_ends 91 = .ok (.iconst 1, 1) := by decide +kernel
theorem dX10_ends_92 : decode cX10_ends 92 = .ok (.isub, 1) := by decide +kernel
theorem dX10_ends_93 : decode cX10_ends 93 = .ok (.iconst 1, 1) := by decide +kernel
theorem dX10_ends_94 : decode cX10_ends 94 = .ok (.invokevirtual 170, 3) := by decide +kernel
theorem dX10_ends_97 : decode cX10_ends 97 = .ok (.ireturn, 1) := by decide +kernel
theorem dX10_ends_98 : decode cX10_ends 98 = .ok (.aload_n 0, 1) := by decide +kernel
theorem dX10_ends_99 : decode cX10_ends 99 = .ok (.iload_n 1, 1) := by decide +kernel
theorem dX10_ends_100 : decode cX10_ends 100 = .ok (.iload_n 2, 1) := by decide +kernel
theorem dX10_ends_101 : decode cX10_ends 101 = .ok (.iconst 1, 1) := by decide +kernel
theorem dX10_ends_102 : decode cX10_ends 102 = .ok (.isub, 1) := by decide +kernel
theorem dX10_ends_103 : decode cX10_ends 103 = .ok (.iconst 2, 1) := by decide +kernel
theorem dX10_ends_104 : decode cX10_ends 104 = .ok (.invokevirtual 170, 3) := by decide +kernel
theorem dX10_ends_107 : decode cX10_ends 107 = .ok (.ireturn, 1) := by decide +kernel
theorem dX10_ends_108 : decode cX10_ends 108 = .ok (.aload_n 0, 1) := by decide +kernel
theorem dX10_ends_109 : decode cX10_ends 109 = .ok (.iload_n 1, 1) := by decide +kernel
theorem dX10_ends_110 : decode cX10_ends 110 = .ok (.iload_n 2, 1) := by decide +kernel
theorem dX10_ends_111 : decode cX10_ends 111 = .ok (.iconst 0, 1) := by decide +kernel
theorem dX10_ends_112 : decode cX10_ends 112 = .ok (.invokevirtual 173, 3) := by decide +kernel
theorem dX10_ends_115 : decode cX10_ends 115 = .ok (.ireturn, 1) := by decide +kernel
theorem dX10_ends_116 : decode cX10_ends 116 = .ok (.aload_n 0, 1) := by decide +kernel
theorem dX10_ends_117 : decode cX10_ends 117 = .ok (.iload_n 1, 1) := by decide +kernel
theorem dX10_ends_118 : decode cX10_ends 118 = .ok (.iconst 1, 1) := by decide +kernel
theorem dX10_ends_119 : decode cX10_ends 119 = .ok (.isub, 1) := by decide +kernel
theorem dX10_ends_120 : decode cX10_ends 120 = .ok (.iload_n 2, 1) := by decide +kernel
theorem dX10_ends_121 : decode cX10_ends 121 = .ok (.iconst 0, 1) := by decide +kernel
theorem dX10_ends_122 : decode cX10_ends 122 = .ok (.invokevirtual 173, 3) := by decide +kernel
theorem dX10_ends_125 : decode cX10_ends 125 = .ok (.ireturn, 1) := by decide +kernel
theorem dX10_ends_126 : decode cX10_ends 126 = .ok (.aload_n 0, 1) := by decide +kernel
theorem dX10_ends_127 : decode cX10_ends 127 = .ok (.iload_n 1, 1) := by decide +kernel
theorem dX10_ends_128 : decode cX10_ends 128 = .ok (.iload_n 2, 1) := by decide +kernel
theorem dX10_ends_129 : decode cX10_ends 129 = .ok (.iconst 3, 1) := by decide +kernel
theorem dX10_ends_130 : decode cX10_ends 130 = .ok (.invokevirtual 173, 3) := by decide +kernel
theorem dX10_ends_133 : decode cX10_ends 133 = .ok (.ireturn, 1) := by decide +kernel
theorem dX10_ends_134 : decode cX10_ends 134 = .ok (.aload_n 0, 1) := by decide +kernel
theorem dX10_ends_135 : decode cX10_ends 135 = .ok (.iload_n 1, 1) := by decide +kernel
theorem dX10_ends_136 : decode cX10_ends 136 = .ok (.iload_n 2, 1) := by decide +kernel
theorem dX10_ends_137 : decode cX10_ends 137 = .ok (.iconst 1, 1) := by decide +kernel
theorem dX10_ends_138 : decode cX10_ends 138 = .ok (.isub, 1) := by decide +kernel
theorem dX10_ends_139 : decode cX10_ends 139 = .ok (.iconst 3, 1) := by decide +kernel
theorem dX10_ends_140 : decode cX10_ends 140 = .ok (.invokevirtual 173, 3) := by decide +kernel
theorem dX10_ends_143 : decode cX10_ends 143 = .ok (.ireturn, 1) := by decide +kernel
theorem dX10_noPoint_0 : decode cX10_noPoint 0 = .ok (.iload_n 3, 1) := by decide +kernel
theorem dX10_noPoint_1 : decode cX10_noPoint 1 = .ok (.ifCond .eq 12, 3) := by decide +kernel
theorem dX10_noPoint_4 : decode cX10_noPoint 4 = .ok (.aload_n 0, 1) := by decide +kernel
theorem dX10_noPoint_5 : decode cX10_noPoint 5 = .ok (.getfield 7, 3) := by decide +kernel
theorem dX10_noPoint_8 : decode cX10_noPoint 8 = .ok (.iconst 1, 1) := by decide +kernel
theorem dX10_noPoint_9 : decode cX10_noPoint 9 = .ok (.isub, 1) := by decide +kernel
theorem dX10_noPoint_10 : decode cX10_noPoint 10 = .ok (.goto 7, 3) := by decide +kernel
theorem dX10_noPoint_13 : decode cX10_noPoint 13 = .ok (.aload_n 0, 1) := by decide +kernel
theorem dX10_noPoint_14 : decode cX10_noPoint 14 = .ok (.getfield 7, 3) := by decide +kernel
theorem dX10_noPoint_17 : decode cX10_noPoint 17 = .ok (.istore 4, 2) := by decide +kernel
theorem dX10_noPoint_19 : decode cX10_noPoint 19 = .ok (.iload_n 1, 1) := by decide +kernel
theorem dX10_noPoint_20 : decode cX10_noPoint 20 = .ok (.i2l, 1) := by decide +kernel
theorem dX10_noPoint_21 : decode cX10_noPoint 21 = .ok (.lconst 0, 1) := by decide +kernel
theorem dX10_noPoint_22 : decode cX10_noPoint 22 = .ok (.iload 4, 2) := by decide +kernel
theorem dX10_noPoint_24 : decode cX10_noPoint 24 = .ok (.i2l, 1) := by decide +kernel
theorem dX10_noPoint_25 : decode cX10_noPoint 25 = .ok (.invokestatic 101, 3) := by decide +kernel
theorem dX10_noPoint_28 : decode cX10_noPoint 28 = .ok (.ifCond .eq 15, 3) := by decide +kernel
theorem dX10_noPoint_31 : decode cX10_noPoint 31 = .ok (.iload_n 2, 1) := by decide +kernel
theorem dX10_noPoint_32 : decode cX10_noPoint 32 = .ok (.i2l, 1) := by decide +kernel
theorem dX10_noPoint_33 : decode cX10_noPoint 33 = .ok (.lconst 0, 1) := by decide +kernel
theorem dX10_noPoint_34 : decode cX10_noPoint 34 = .ok (.iload 4, 2) := by decide +kernel
theorem dX10_noPoint_36 : decode cX10_noPoint 36 = .ok (.i2l, 1) := by decide +kernel
theorem dX10_noPoint_37 : decode cX10_noPoint 37 = .ok (.invokestatic 101, 3) := by decide +kernel
theorem dX10_noPoint_40 : decode cX10_noPoint 40 = .ok (.ifCond .ne 7, 3) := by decide +kernel
theorem dX10_noPoint_43 : decode cX10_noPoint 43 = .ok (.iconst 1, 1) := by decide +kernel
theorem dX10_noPoint_44 : decode cX10_noPoint 44 = .ok (.goto 4, 3) := by decide +kernel
theorem dX10_noPoint_47 : decode cX10_noPoint 47 = .ok (.iconst 0, 1) := by decide +kernel
theorem dX10_noPoint_48 : decode cX10_noPoint 48 = .ok (.ireturn, 1) := by decide +kernel
theorem dX10_balance_0 : decode cX10_balance 0 = .ok (.aload_n 0, 1) := by decide +kernel
theorem dX10_balance_1 : decode cX10_balance 1 = .ok (.iconst 0, 1) := by decide +kernel
theorem dX10_balance_2 : decode cX10_balance 2 = .ok (.putfield 94, 3) := by decide +kernel
theorem dX10_balance_5 : decode cX10_balance 5 = .ok (.aload_n 0, 1) := by decide +kernel
theorem dX10_balance_6 : decode cX10_balance 6 = .ok (.iload_n 1, 1) := by decide +kernel
theorem dX10_balance_7 : decode cX10_balance 7 = .ok (.iload_n 2, 1) := by decide +kernel
theorem dX10_balance_8 : decode cX10_balance 8 = .ok (.iload_n 3, 1) := by decide +kernel
theorem dX10_balance_9 : decode cX10_balance 9 = .ok (.invokevirtual 176, 3) := by decide +kernel
theorem dX10_balance_12 : decode cX10_balance 12 = .ok (.ifCond .eq 6, 3) := by decide +kernel
theorem dX10_balance_15 : decode cX10_balance 15 = .ok (.bipush (-2), 2) := by decide +kernel
theorem dX10_balance_17 : decode cX10_balance 17 = .ok (.ireturn, 1) := by decide +kernel
theorem dX10_balance_18 : decode cX10_balance 18 = .ok (.iconst 0, 1) := by decide +kernel
theorem dX10_balance_19 : decode cX10_balance 19 = .ok (.istore 4, 2) := by decide +kernel
theorem dX10_balance_21 : decode cX10_balance 21 = .ok (.iconst 0, 1) := by decide +kernel
theorem dX10_balance_22 : decode cX10_balance 22 = .ok (.istore 5, 2) := by decide +kernel
theorem dX10_balance_24 : decode cX10_balance 24 = .ok (.iload 5, 2) := by decide +kernel
theorem dX10_balance_26 : decode cX10_balance 26 = .ok (.bipush 8, 2) := by decide +kernel
theorem dX10_balance_28 : decode cX10_balance 28 = .ok (.if_icmp .ge 46, 3) := by decide +kernel
theorem dX10_balance_31 : decode cX10_balance 31 = .ok (.aload_n 0, 1) := by decide +kernel
theorem dX10_balance_32 : decode cX10_balance 32 = .ok (.iload_n 1, 1) := by decide +kernel
theorem dX10_balance_33 : decode cX10_balance 33 = .ok (.iload_n 2, 1) := by decide +kernel
theorem dX10_balance_34 : decode cX10_balance 34 = .ok (.iload_n 3, 1) := by decide +kernel
theorem dX10_balance_35 : decode cX10_balance 35 = .ok (.iload 5, 2) := by decide +kernel
theorem dX10_balance_37 : decode cX10_balance 37 = .ok (.invokevirtual 180, 3) := by decide +kernel
theorem dX10_balance_40 : decode cX10_balance 40 = .ok (.istore 6, 2) := by decide +kernel
theorem dX10_balance_42 : decode cX10_balance 42 = .ok (.iload 4, 2) := by decide +kernel
theorem dX10_balance_44 : decode cX10_balance 44 = .ok (.iload 6, 2) := by decide +kernel
theorem dX10_balance_46 : decode cX10_balance 46 = .ok (.iconst 2, 1) := by decide +kernel
theorem dX10_balance_47 : decode cX10_balance 47 = .ok (.if_icmp .ne 7, 3) := by decide +kernel
theorem dX10_balance_50 : decode cX10_balance 50 = .ok (.iconst 1, 1) := by decide +kernel
theorem dX10_balance_51 : decode cX10_balance 51 = .ok (.goto 14, 3) := by decide +kernel
theorem dX10_balance_54 : decode cX10_balance 54 = .ok (.iload 6, 2) := by decide +kernel
theorem dX10_balance_56 : decode cX10_balance 56 = .ok (.iconst 1, 1) := by decide +kernel
theorem dX10_balance_57 : decode cX10_balance 57 = .ok (.if_icmp .ne 7, 3) := by decide +kernel
theorem dX10_balance_60 : decode cX10_balance 60 = .ok (.iconst (-1), 1) := by decide +kernel
theorem dX10_balance_61 : decode cX10_balance 61 = .ok (.goto 4, 3) := by decide +kernel
theorem dX10_balance_64 : decode cX10_balance 64 = .ok (.iconst 0, 1) := by decide +kernel
theorem dX10_balance_65 : decode cX10_balance 65 = .ok (.iadd, 1) := by decide +kernel
theorem dX10_balance_66 : decode cX10_balance 66 = .ok (.istore 4, 2) := by decide +kernel
theorem dX10_balance_68 : decode cX10_balance 68 = .ok (.iinc 5 1, 3) := by decide +kernel
theorem dX10_balance_71 : decode cX10_balance 71 = .ok (.goto (-47), 3) := by decide +kernel
theorem dX10_balance_74 : decode cX10_balance 74 = .ok (.iload 4, 2) := by decide +kernel
theorem dX10_balance_76 : decode cX10_balance 76 = .ok (.ireturn, 1) := by decide +kernel
theorem dX10_degree_0 : decode cX10_degree 0 = .ok (.aload_n 0, 1) := by decide +kernel
theorem dX10_degree_1 : decode cX10_degree 1 = .ok (.iconst 0, 1) := by decide +kernel
theorem dX10_degree_2 : decode cX10_degree 2 = .ok (.putfield 94, 3) := by decide +kernel
theorem dX10_degree_5 : decode cX10_degree 5 = .ok (.aload_n 0, 1) := by decide +kernel
theorem dX10_degree_6 : decode cX10_degree 6 = .ok (.iload_n 1, 1) := by decide +kernel
theorem dX10_degree_7 : decode cX10_degree 7 = .ok (.iload_n 2, 1) := by decide +kernel
theorem dX10_degree_8 : decode cX10_degree 8 = .ok (.iload_n 3, 1) := by decide +kernel
theorem dX10_degree_9 : decode cX10_degree 9 = .ok (.invokevirtual 176, 3) := by decide +kernel
theorem dX10_degree_12 : decode cX10_degree 12 = .ok (.ifCond .eq 6, 3) := by decide +kernel
theorem dX10_degree_15 : decode cX10_degree 15 = .ok (.bipush (-2), 2) := by decide +kernel
theorem dX10_degree_17 : decode cX10_degree 17 = .ok (.ireturn, 1) := by decide +kernel
theorem dX10_degree_18 : decode cX10_degree 18 = .ok (.iconst 0, 1) := by decide +kernel
theorem dX10_degree_19 : decode cX10_degree 19 = .ok (.istore 4, 2) := by decide +kernel
theorem dX10_degree_21 : decode cX10_degree 21 = .ok (.iconst 0, 1) := by decide +kernel
theorem dX10_degree_22 : decode cX10_degree 22 = .ok (.istore 5, 2) := by decide +kernel
theorem dX10_degree_24 : decode cX10_degree 24 = .ok (.iload 5, 2) := by decide +kernel
theorem dX10_degree_26 : decode cX10_degree 26 = .ok (.bipush 8, 2) := by decide +kernel
theorem dX10_degree_28 : decode cX10_degree 28 = .ok (.if_icmp .ge 31, 3) := by decide +kernel
theorem dX10_degree_31 : decode cX10_degree 31 = .ok (.iload 4, 2) := by decide +kernel
theorem dX10_degree_33 : decode cX10_degree 33 = .ok (.aload_n 0, 1) := by decide +kernel
theorem dX10_degree_34 : decode cX10_degree 34 = .ok (.iload_n 1, 1) := by decide +kernel
theorem dX10_degree_35 : decode cX10_degree 35 = .ok (.iload_n 2, 1) := by decide +kernel
theorem dX10_degree_36 : decode cX10_degree 36 = .ok (.iload_n 3, 1) := by decide +kernel
theorem dX10_degree_37 : decode cX10_degree 37 = .ok (.iload 5, 2) := by decide +kernel
theorem dX10_degree_39 : decode cX10_degree 39 = .ok (.invokevirtual 180, 3) := by decide +kernel
theorem dX10_degree_42 : decode cX10_degree 42 = .ok (.ifCond .ne 7, 3) := by decide +kernel
theorem dX10_degree_45 : decode cX10_degree 45 = .ok (.iconst 0, 1) := by decide +kernel
theorem dX10_degree_46 : decode cX10_degree 46 = .ok (.goto 4, 3) := by decide +kernel
theorem dX10_degree_49 : decode cX10_degree 49 = .ok (.iconst 1, 1) := by decide +kernel
theorem dX10_degree_50 : decode cX10_degree 50 = .ok (.iadd, 1) := by decide +kernel
theorem dX10_degree_51 : decode cX10_degree 51 = .ok (.istore 4, 2) := by decide +kernel
theorem dX10_degree_53 : decode cX10_degree 53 = .ok (.iinc 5 1, 3) := by decide +kernel
theorem dX10_degree_56 : decode cX10_degree 56 = .ok (.goto (-32), 3) := by decide +kernel
theorem dX10_degree_59 : decode cX10_degree 59 = .ok (.iload 4, 2) := by decide +kernel
theorem dX10_degree_61 : decode cX10_degree 61 = .ok (.ireturn, 1) := by decide +kernel
theorem dX10_knife_0 : decode cX10_knife 0 = .ok (.aload_n 0, 1) := by decide +kernel
theorem dX10_knife_1 : decode cX10_knife 1 = .ok (.iconst 0, 1) := by decide +kernel
theorem dX10_knife_2 : decode cX10_knife 2 = .ok (.putfield 94, 3) := by decide +kernel
theorem dX10_knife_5 : decode cX10_knife 5 = .ok (.iload_n 1, 1) := by decide +kernel
theorem dX10_knife_6 : decode cX10_knife 6 = .ok (.i2l, 1) := by decide +kernel
theorem dX10_knife_7 : decode cX10_knife 7 = .ok (.lconst 1, 1) := by decide +kernel
theorem dX10_knife_8 : decode cX10_knife 8 = .ok (.ldc2_w 184, 3) := by decide +kernel
theorem dX10_knife_11 : decode cX10_knife 11 = .ok (.invokestatic 101, 3) := by decide +kernel
theorem dX10_knife_14 : decode cX10_knife 14 = .ok (.ifCond .ne 6, 3) := by decide +kernel
theorem dX10_knife_17 : decode cX10_knife 17 = .ok (.bipush (-2), 2) := by decide +kernel
theorem dX10_knife_19 : decode cX10_knife 19 = .ok (.ireturn, 1) := by decide +kernel
theorem dX10_knife_20 : decode cX10_knife 20 = .ok (.aload_n 0, 1) := by decide +kernel
theorem dX10_knife_21 : decode cX10_knife 21 = .ok (.getfield 54, 3) := by decide +kernel
theorem dX10_knife_24 : decode cX10_knife 24 = .ok (.istore_n 2, 1) := by decide +kernel
theorem dX10_knife_25 : decode cX10_knife 25 = .ok (.aload_n 0, 1) := by decide +kernel
theorem dX10_knife_26 : decode cX10_knife 26 = .ok (.iload_n 1, 1) := by decide +kernel
theorem dX10_knife_27 : decode cX10_knife 27 = .ok (.putfield 54, 3) := by decide +kernel
theorem dX10_knife_30 : decode cX10_knife 30 = .ok (.iload_n 2, 1) := by decide +kernel
theorem dX10_knife_31 : decode cX10_knife 31 = .ok (.ireturn, 1) := by decide +kernel
theorem dX10_touches_0 : decode cX10_touches 0 = .ok (.aload_n 0, 1) := by decide +kernel
theorem dX10_touches_1 : decode cX10_touches 1 = .ok (.getfield 20, 3) := by decide +kernel
theorem dX10_touches_4 : decode cX10_touches 4 = .ok (.iload_n 1, 1) := by decide +kernel
theorem dX10_touches_5 : decode cX10_touches 5 = .ok (.iaload, 1) := by decide +kernel
theorem dX10_touches_6 : decode cX10_touches 6 = .ok (.istore 4, 2) := by decide +kernel
theorem dX10_touches_8 : decode cX10_touches 8 = .ok (.iload_n 2, 1) := by decide +kernel
theorem dX10_touches_9 : decode cX10_touches 9 = .ok (.tableswitch 129 0 2 #[27, 67, 106], 27) := by decide +kernel
theorem dX10_touches_36 : decode cX10_touches 36 = .ok (.iload 4, 2) := by decide +kernel
theorem dX10_touches_38 : decode cX10_touches 38 = .ok (.iconst 1, 1) := by decide +kernel
theorem dX10_touches_39 : decode cX10_touches 39 = .ok (.if_icmp .ne 15, 3) := by decide +kernel
theorem dX10_touches_42 : decode cX10_touches 42 = .ok (.iload_n 3, 1) := by decide +kernel
theorem dX10_touches_43 : decode cX10_touches 43 = .ok (.aload_n 0, 1) := by decide +kernel
theorem dX10_touches_44 : decode cX10_touches 44 = .ok (.getfield 13, 3) := by decide +kernel
theorem dX10_touches_47 : decode cX10_touches 47 = .ok (.iload_n 1, 1) := by decide +kernel
theorem dX10_touches_48 : decode cX10_touches 48 = .ok (.iaload, 1) := by decide +kernel
theorem dX10_touches_49 : decode cX10_touches 49 = .ok (.iconst 1, 1) := by decide +kernel
theorem dX10_touches_50 : decode cX10_touches 50 = .ok (.iadd, 1) := by decide +kernel
theorem dX10_touches_51 : decode cX10_touches 51 = .ok (.if_icmp .eq 19, 3) := by decide +kernel
theorem dX10_touches_54 : decode cX10_touches 54 = .ok (.iload 4, 2) := by decide +kernel
theorem dX10_touches_56 : decode cX10_touches 56 = .ok (.iconst 3, 1) := by decide +kernel
theorem dX10_touches_57 : decode cX10_touches 57 = .ok (.if_icmp .ne 17, 3) := by decide +kernel
theorem dX10_touches_60 : decode cX10_touches 60 = .ok (.iload_n 3, 1) := by decide +kernel
theorem dX10_touches_61 : decode cX10_touches 61 = .ok (.aload_n 0, 1) := by decide +kernel
theorem dX10_touches_62 : decode cX10_touches 62 = .ok (.getfield 13, 3) := by decide +kernel
theorem dX10_touches_65 : decode cX10_touches 65 = .ok (.iload_n 1, 1) := by decide +kernel
theorem dX10_touches_66 : decode cX10_touches 66 = .ok (.iaload, 1) := by decide +kernel
theorem dX10_touches_67 : decode cX10_touches 67 = .ok (.if_icmp .ne 7, 3) := by decide +kernel
theorem dX10_touches_70 : decode cX10_touches 70 = .ok (.iconst 1, 1) := by decide +kernel
theorem dX10_touches_71 : decode cX10_touches 71 = .ok (.goto 4, 3) := by decide +kernel
theorem dX10_touches_74 : decode cX10_touches 74 = .ok (.iconst 0, 1) := by decide +kernel
theorem dX10_touches_75 : decode cX10_touches 75 = .ok (.ireturn, 1) := by decide +kernel
theorem dX10_touches_76 : decode cX10_touches 76 = .ok (.iload 4, 2) := by decide +kernel
theorem dX10_touches_78 : decode cX10_touches 78 = .ok (.ifCond .ne 13, 3) := by decide +kernel
theorem dX10_touches_81 : decode cX10_touches 81 = .ok (.iload_n 3, 1) := by decide +kernel
theorem dX10_touches_82 : decode cX10_touches 82 = .ok (.aload_n 0, 1) := by decide +kernel
theorem dX10_touches_83 : decode cX10_touches 83 = .ok (.getfield 17, 3) := by decide +kernel
theorem dX10_touches_86 : decode cX10_touches 86 = .ok (.iload_n 1, 1) := by decide +kernel
theorem dX10_touches_87 : decode cX10_touches 87 = .ok (.iaload, 1) := by decide +kernel
theorem dX10_touches_88 : decode cX10_touches 88 = .ok (.if_icmp .eq 21, 3) := by decide +kernel
theorem dX10_touches_91 : decode cX10_touches 91 = .ok (.iload 4, 2) := by decide +kernel
theorem dX10_touches_93 : decode cX10_touches 93 = .ok (.iconst 2, 1) := by decide +kernel
theorem dX10_touches_94 : decode cX10_touches 94 = .ok (.if_icmp .ne 19, 3) := by decide +kernel
theorem dX10_touches_97 : decode cX10_touches 97 = .ok (.iload_n 3, 1) := by decide +kernel
theorem dX10_touches_98 : decode cX10_touches 98 = .ok (.aload_n 0, 1) := by decide +kernel
theorem dX10_touches_99 : decode cX10_touches 99 = .ok (.getfield 17, 3) := by decide +kernel
theorem dX10_touches_102 : decode cX10_touches 102 = .ok (.iload_n 1, 1) := by decide +kernel
theorem dX10_touches_103 : decode cX10_touches 103 = .ok (.iaload, 1) := by decide +kernel
theorem dX10_touches_104 : decode cX10_touches 104 = .ok (.iconst 1, 1) := by decide +kernel
theorem dX10_touches_105 : decode cX10_touches 105 = .ok (.iadd, 1) := by decide +kernel
theorem dX10_touches_106 : decode cX10_touches 106 = .ok (.if_icmp .ne 7, 3) := by decide +kernel
theorem dX10_touches_109 : decode cX10_touches 109 = .ok (.iconst 1, 1) := by decide +kernel
theorem dX10_touches_110 : decode cX10_touches 110 = .ok (.goto 4, 3) := by decide +kernel
theorem dX10_touches_113 : decode cX10_touches 113 = .ok (.iconst 0, 1) := by decide +kernel
theorem dX10_touches_114 : decode cX10_touches 114 = .ok (.ireturn, 1) := by decide +kernel
theorem dX10_touches_115 : decode cX10_touches 115 = .ok (.iload_n 3, 1) := by decide +kernel
theorem dX10_touches_116 : decode cX10_touches 116 = .ok (.aload_n 0, 1) := by decide +kernel
theorem dX10_touches_117 : decode cX10_touches 117 = .ok (.getfield 13, 3) := by decide +kernel
theorem dX10_touches_120 : decode cX10_touches 120 = .ok (.iload_n 1, 1) := by decide +kernel
theorem dX10_touches_121 : decode cX10_touches 121 = .ok (.iaload, 1) := by decide +kernel
theorem dX10_touches_122 : decode cX10_touches 122 = .ok (.aload_n 0, 1) := by decide +kernel
theorem dX10_touches_123 : decode cX10_touches 123 = .ok (.getfield 17, 3) := by decide +kernel
theorem dX10_touches_126 : decode cX10_touches 126 = .ok (.iload_n 1, 1) := by decide +kernel
theorem dX10_touches_127 : decode cX10_touches 127 = .ok (.iaload, 1) := by decide +kernel
theorem dX10_touches_128 : decode cX10_touches 128 = .ok (.isub, 1) := by decide +kernel
theorem dX10_touches_129 : decode cX10_touches 129 = .ok (.if_icmp .ne 7, 3) := by decide +kernel
theorem dX10_touches_132 : decode cX10_touches 132 = .ok (.iconst 1, 1) := by decide +kernel
theorem dX10_touches_133 : decode cX10_touches 133 = .ok (.goto 4, 3) := by decide +kernel
theorem dX10_touches_136 : decode cX10_touches 136 = .ok (.iconst 0, 1) := by decide +kernel
theorem dX10_touches_137 : decode cX10_touches 137 = .ok (.ireturn, 1) := by decide +kernel
theorem dX10_touches_138 : decode cX10_touches 138 = .ok (.iload_n 3, 1) := by decide +kernel
theorem dX10_touches_139 : decode cX10_touches 139 = .ok (.aload_n 0, 1) := by decide +kernel
theorem dX10_touches_140 : decode cX10_touches 140 = .ok (.getfield 13, 3) := by decide +kernel
theorem dX10_touches_143 : decode cX10_touches 143 = .ok (.iload_n 1, 1) := by decide +kernel
theorem dX10_touches_144 : decode cX10_touches 144 = .ok (.iaload, 1) := by decide +kernel
theorem dX10_touches_145 : decode cX10_touches 145 = .ok (.aload_n 0, 1) := by decide +kernel
theorem dX10_touches_146 : decode cX10_touches 146 = .ok (.getfield 17, 3) := by decide +kernel
theorem dX10_touches_149 : decode cX10_touches 149 = .ok (.iload_n 1, 1) := by decide +kernel
theorem dX10_touches_150 : decode cX10_touches 150 = .ok (.iaload, 1) := by decide +kernel
theorem dX10_touches_151 : decode cX10_touches 151 = .ok (.iadd, 1) := by decide +kernel
theorem dX10_touches_152 : decode cX10_touches 152 = .ok (.iconst 1, 1) := by decide +kernel
theorem dX10_touches_153 : decode cX10_touches 153 = .ok (.iadd, 1) := by decide +kernel
theorem dX10_touches_154 : decode cX10_touches 154 = .ok (.if_icmp .ne 7, 3) := by decide +kernel
theorem dX10_touches_157 : decode cX10_touches 157 = .ok (.iconst 1, 1) := by decide +kernel
theorem dX10_touches_158 : decode cX10_touches 158 = .ok (.goto 4, 3) := by decide +kernel
theorem dX10_touches_161 : decode cX10_touches 161 = .ok (.iconst 0, 1) := by decide +kernel
theorem dX10_touches_162 : decode cX10_touches 162 = .ok (.ireturn, 1) := by decide +kernel
theorem dX10_thickOf_0 : decode cX10_thickOf 0 = .ok (.iconst 0, 1) := by decide +kernel
theorem dX10_thickOf_1 : decode cX10_thickOf 1 = .ok (.istore_n 3, 1) := by decide +kernel
theorem dX10_thickOf_2 : decode cX10_thickOf 2 = .ok (.iconst 0, 1) := by decide +kernel
theorem dX10_thickOf_3 : decode cX10_thickOf 3 = .ok (.istore 4, 2) := by decide +kernel
theorem dX10_thickOf_5 : decode cX10_thickOf 5 = .ok (.iload 4, 2) := by decide +kernel
theorem dX10_thickOf_7 : decode cX10_thickOf 7 = .ok (.aload_n 0, 1) := by decide +kernel
theorem dX10_thickOf_8 : decode cX10_thickOf 8 = .ok (.invokevirtual 97, 3) := by decide +kernel
theorem dX10_thickOf_11 : decode cX10_thickOf 11 = .ok (.if_icmp .ge 47, 3) := by decide +kernel
theorem dX10_thickOf_14 : decode cX10_thickOf 14 = .ok (.aload_n 0, 1) := by decide +kernel
theorem dX10_thickOf_15 : decode cX10_thickOf 15 = .ok (.iload 4, 2) := by decide +kernel
theorem dX10_thickOf_17 : decode cX10_thickOf 17 = .ok (.iload_n 1, 1) := by decide +kernel
theorem dX10_thickOf_18 : decode cX10_thickOf 18 = .ok (.iload_n 2, 1) := by decide +kernel
theorem dX10_thickOf_19 : decode cX10_thickOf 19 = .ok (.invokevirtual 186, 3) := by decide +kernel
theorem dX10_thickOf_22 : decode cX10_thickOf 22 = .ok (.ifCond .eq 28, 3) := by decide +kernel
theorem dX10_thickOf_25 : decode cX10_thickOf 25 = .ok (.aload_n 0, 1) := by decide +kernel
theorem dX10_thickOf_26 : decode cX10_thickOf 26 = .ok (.getfield 23, 3) := by decide +kernel
theorem dX10_thickOf_29 : decode cX10_thickOf 29 = .ok (.iload 4, 2) := by decide +kernel
theorem dX10_thickOf_31 : decode cX10_thickOf 31 = .ok (.iaload, 1) := by decide +kernel
theorem dX10_thickOf_32 : decode cX10_thickOf 32 = .ok (.iconst 1, 1) := by decide +kernel
theorem dX10_thickOf_33 : decode cX10_thickOf 33 = .ok (.iadd, 1) := by decide +kernel
theorem dX10_thickOf_34 : decode cX10_thickOf 34 = .ok (.iload_n 3, 1) := by decide +kernel
theorem dX10_thickOf_35 : decode cX10_thickOf 35 = .ok (.if_icmp .le 15, 3) := by decide +kernel
theorem dX10_thickOf_38 : decode cX10_thickOf 38 = .ok (.aload_n 0, 1) := by decide +kernel
theorem dX10_thickOf_39 : decode cX10_thickOf 39 = .ok (.getfield 23, 3) := by decide +kernel
theorem dX10_thickOf_42 : decode cX10_thickOf 42 = .ok (.iload 4, 2) := by decide +kernel
theorem dX10_thickOf_44 : decode cX10_thickOf 44 = .ok (.iaload, 1) := by decide +kernel
theorem dX10_thickOf_45 : decode cX10_thickOf 45 = .ok (.iconst 1, 1) := by decide +kernel
theorem dX10_thickOf_46 : decode cX10_thickOf 46 = .ok (.iadd, 1) := by decide +kernel
theorem dX10_thickOf_47 : decode cX10_thickOf 47 = .ok (.goto 4, 3) := by decide +kernel
theorem dX10_thickOf_50 : decode cX10_thickOf 50 = .ok (.iload_n 3, 1) := by decide +kernel
theorem dX10_thickOf_51 : decode cX10_thickOf 51 = .ok (.istore_n 3, 1) := by decide +kernel
theorem dX10_thickOf_52 : decode cX10_thickOf 52 = .ok (.iinc 4 1, 3) := by decide +kernel
theorem dX10_thickOf_55 : decode cX10_thickOf 55 = .ok (.goto (-50), 3) := by decide +kernel
theorem dX10_thickOf_58 : decode cX10_thickOf 58 = .ok (.iload_n 3, 1) := by decide +kernel
theorem dX10_thickOf_59 : decode cX10_thickOf 59 = .ok (.ireturn, 1) := by decide +kernel
theorem dX10_thickness_0 : decode cX10_thickness 0 = .ok (.aload_n 0, 1) := by decide +kernel
theorem dX10_thickness_1 : decode cX10_thickness 1 = .ok (.iconst 0, 1) := by decide +kernel
theorem dX10_thickness_2 : decode cX10_thickness 2 = .ok (.putfield 94, 3) := by decide +kernel
theorem dX10_thickness_5 : decode cX10_thickness 5 = .ok (.iload_n 1, 1) := by decide +kernel
theorem dX10_thickness_6 : decode cX10_thickness 6 = .ok (.iload_n 2, 1) := by decide +kernel
theorem dX10_thickness_7 : decode cX10_thickness 7 = .ok (.invokestatic 138, 3) := by decide +kernel
theorem dX10_thickness_10 : decode cX10_thickness 10 = .ok (.ifCond .eq 8, 3) := by decide +kernel
theorem dX10_thickness_13 : decode cX10_thickness 13 = .ok (.bipush (-2), 2) := by decide +kernel
theorem dX10_thickness_15 : decode cX10_thickness 15 = .ok (.goto 9, 3) := by decide +kernel
theorem dX10_thickness_18 : decode cX10_thickness 18 = .ok (.aload_n 0, 1) := by decide +kernel
theorem dX10_thickness_19 : decode cX10_thickness 19 = .ok (.iload_n 1, 1) := by decide +kernel
theorem dX10_thickness_20 : decode cX10_thickness 20 = .ok (.iload_n 2, 1) := by decide +kernel
theorem dX10_thickness_21 : decode cX10_thickness 21 = .ok (.invokevirtual 190, 3) := by decide +kernel
theorem dX10_thickness_24 : decode cX10_thickness 24 = .ok (.ireturn, 1) := by decide +kernel
theorem dX10_fallsOf_0 : decode cX10_fallsOf 0 = .ok (.iconst 0, 1) := by decide +kernel
theorem dX10_fallsOf_1 : decode cX10_fallsOf 1 = .ok (.istore 4, 2) := by decide +kernel
theorem dX10_fallsOf_3 : decode cX10_fallsOf 3 = .ok (.iconst 0, 1) := by decide +kernel
theorem dX10_fallsOf_4 : decode cX10_fallsOf 4 = .ok (.istore 5, 2) := by decide +kernel
theorem dX10_fallsOf_6 : decode cX10_fallsOf 6 = .ok (.iload 5, 2) := by decide +kernel
theorem dX10_fallsOf_8 : decode cX10_fallsOf 8 = .ok (.aload_n 0, 1) := by decide +kernel
theorem dX10_fallsOf_9 : decode cX10_fallsOf 9 = .ok (.invokevirtual 97, 3) := by decide +kernel
theorem dX10_fallsOf_12 : decode cX10_fallsOf 12 = .ok (.if_icmp .ge 49, 3) := by decide +kernel
theorem dX10_fallsOf_15 : decode cX10_fallsOf 15 = .ok (.iload 4, 2) := by decide +kernel
theorem dX10_fallsOf_17 : decode cX10_fallsOf 17 = .ok (.iload_n 1, 1) := by decide +kernel
theorem dX10_fallsOf_18 : decode cX10_fallsOf 18 = .ok (.iload_n 2, 1) := by decide +kernel
theorem dX10_fallsOf_19 : decode cX10_fallsOf 19 = .ok (.aload_n 0, 1) := by decide +kernel
theorem dX10_fallsOf_20 : decode cX10_fallsOf 20 = .ok (.getfield 13, 3) := by decide +kernel
theorem dX10_fallsOf_23 : decode cX10_fallsOf 23 = .ok (.iload 5, 2) := by decide +kernel
theorem dX10_fallsOf_25 : decode cX10_fallsOf 25 = .ok (.iaload, 1) := by decide +kernel
theorem dX10_fallsOf_26 : decode cX10_fallsOf 26 = .ok (.aload_n 0, 1) := by decide +kernel
theorem dX10_fallsOf_27 : decode cX10_fallsOf 27 = .ok (.getfield 17, 3) := by decide +kernel
theorem dX10_fallsOf_30 : decode cX10_fallsOf 30 = .ok (.iload 5, 2) := by decide +kernel
theorem dX10_fallsOf_32 : decode cX10_fallsOf 32 = .ok (.iaload, 1) := by decide +kernel
theorem dX10_fallsOf_33 : decode cX10_fallsOf 33 = .ok (.aload_n 0, 1) := by decide +kernel
theorem dX10_fallsOf_34 : decode cX10_fallsOf 34 = .ok (.getfield 20, 3) := by decide +kernel
theorem dX10_fallsOf_37 : decode cX10_fallsOf 37 = .ok (.iload 5, 2) := by decide +kernel
theorem dX10_fallsOf_39 : decode cX10_fallsOf 39 = .ok (.iaload, 1) := by decide +kernel
theorem dX10_fallsOf_40 : decode cX10_fallsOf 40 = .ok (.invokestatic 142, 3) := by decide +kernel
theorem dX10_fallsOf_43 : decode cX10_fallsOf 43 = .ok (.iload_n 3, 1) := by decide +kernel
theorem dX10_fallsOf_44 : decode cX10_fallsOf 44 = .ok (.if_icmp .ne 7, 3) := by decide +kernel
theorem dX10_fallsOf_47 : decode cX10_fallsOf 47 = .ok (.iconst 1, 1) := by decide +kernel
theorem dX10_fallsOf_48 : decode cX10_fallsOf 48 = .ok (.goto 4, 3) := by decide +kernel
theorem dX10_fallsOf_51 : decode cX10_fallsOf 51 = .ok (.iconst 0, 1) := by decide +kernel
theorem dX10_fallsOf_52 : decode cX10_fallsOf 52 = .ok (.iadd, 1) := by decide +kernel
theorem dX10_fallsOf_53 : decode cX10_fallsOf 53 = .ok (.istore 4, 2) := by decide +kernel
theorem dX10_fallsOf_55 : decode cX10_fallsOf 55 = .ok (.iinc 5 1, 3) := by decide +kernel
theorem dX10_fallsOf_58 : decode cX10_fallsOf 58 = .ok (.goto (-52), 3) := by decide +kernel
theorem dX10_fallsOf_61 : decode cX10_fallsOf 61 = .ok (.iload 4, 2) := by decide +kernel
theorem dX10_fallsOf_63 : decode cX10_fallsOf 63 = .ok (.ireturn, 1) := by decide +kernel
theorem dX10_would_0 : decode cX10_would 0 = .ok (.aload_n 0, 1) := by decide +kernel
theorem dX10_would_1 : decode cX10_would 1 = .ok (.iconst 0, 1) := by decide +kernel
theorem dX10_would_2 : decode cX10_would 2 = .ok (.putfield 94, 3) := by decide +kernel
theorem dX10_would_5 : decode cX10_would 5 = .ok (.iload_n 1, 1) := by decide +kernel
theorem dX10_would_6 : decode cX10_would 6 = .ok (.iload_n 2, 1) := by decide +kernel
theorem dX10_would_7 : decode cX10_would 7 = .ok (.invokestatic 138, 3) := by decide +kernel
theorem dX10_would_10 : decode cX10_would 10 = .ok (.ifCond .ne 13, 3) := by decide +kernel
theorem dX10_would_13 : decode cX10_would 13 = .ok (.iload_n 3, 1) := by decide +kernel
theorem dX10_would_14 : decode cX10_would 14 = .ok (.i2l, 1) := by decide +kernel
theorem dX10_would_15 : decode cX10_would 15 = .ok (.lconst 0, 1) := by decide +kernel
theorem dX10_would_16 : decode cX10_would 16 = .ok (.lconst 1, 1) := by decide +kernel
theorem dX10_would_17 : decode cX10_would 17 = .ok (.invokestatic 101, 3) := by decide +kernel
theorem dX10_would_20 : decode cX10_would 20 = .ok (.ifCond .ne 8, 3) := by decide +kernel
theorem dX10_would_23 : decode cX10_would 23 = .ok (.bipush (-2), 2) := by decide +kernel
theorem dX10_would_25 : decode cX10_would 25 = .ok (.goto 10, 3) := by decide +kernel
theorem dX10_would_28 : decode cX10_would 28 = .ok (.aload_n 0, 1) := by decide +kernel
theorem dX10_would_29 : decode cX10_would 29 = .ok (.iload_n 1, 1) := by decide +kernel
theorem dX10_would_30 : decode cX10_would 30 = .ok (.iload_n 2, 1) := by decide +kernel
theorem dX10_would_31 : decode cX10_would 31 = .ok (.iload_n 3, 1) := by decide +kernel
theorem dX10_would_32 : decode cX10_would 32 = .ok (.invokevirtual 193, 3) := by decide +kernel
theorem dX10_would_35 : decode cX10_would 35 = .ok (.ireturn, 1) := by decide +kernel
theorem dX10_cut_0 : decode cX10_cut 0 = .ok (.aload_n 0, 1) := by decide +kernel
theorem dX10_cut_1 : decode cX10_cut 1 = .ok (.iconst 0, 1) := by decide +kernel
theorem dX10_cut_2 : decode cX10_cut 2 = .ok (.putfield 94, 3) := by decide +kernel
theorem dX10_cut_5 : decode cX10_cut 5 = .ok (.iload_n 1, 1) := by decide +kernel
theorem dX10_cut_6 : decode cX10_cut 6 = .ok (.iload_n 2, 1) := by decide +kernel
theorem dX10_cut_7 : decode cX10_cut 7 = .ok (.invokestatic 138, 3) := by decide +kernel
theorem dX10_cut_10 : decode cX10_cut 10 = .ok (.ifCond .ne 13, 3) := by decide +kernel
theorem dX10_cut_13 : decode cX10_cut 13 = .ok (.iload_n 3, 1) := by decide +kernel
theorem dX10_cut_14 : decode cX10_cut 14 = .ok (.i2l, 1) := by decide +kernel
theorem dX10_cut_15 : decode cX10_cut 15 = .ok (.lconst 0, 1) := by decide +kernel
theorem dX10_cut_16 : decode cX10_cut 16 = .ok (.lconst 1, 1) := by decide +kernel
theorem dX10_cut_17 : decode cX10_cut 17 = .ok (.invokestatic 101, 3) := by decide +kernel
theorem dX10_cut_20 : decode cX10_cut 20 = .ok (.ifCond .ne 6, 3) := by decide +kernel
theorem dX10_cut_23 : decode cX10_cut 23 = .ok (.bipush (-2), 2) := by decide +kernel
theorem dX10_cut_25 : decode cX10_cut 25 = .ok (.ireturn, 1) := by decide +kernel
theorem dX10_cut_26 : decode cX10_cut 26 = .ok (.aload_n 0, 1) := by decide +kernel
theorem dX10_cut_27 : decode cX10_cut 27 = .ok (.getfield 114, 3) := by decide +kernel
theorem dX10_cut_30 : decode cX10_cut 30 = .ok (.ifCond .eq 6, 3) := by decide +kernel
theorem dX10_cut_33 : decode cX10_cut 33 = .ok (.bipush (-3), 2) := by decide +kernel
theorem dX10_cut_35 : decode cX10_cut 35 = .ok (.ireturn, 1) := by decide +kernel
theorem dX10_cut_36 : decode cX10_cut 36 = .ok (.aload_n 0, 1) := by decide +kernel
theorem dX10_cut_37 : decode cX10_cut 37 = .ok (.iload_n 1, 1) := by decide +kernel
theorem dX10_cut_38 : decode cX10_cut 38 = .ok (.iload_n 2, 1) := by decide +kernel
theorem dX10_cut_39 : decode cX10_cut 39 = .ok (.invokevirtual 190, 3) := by decide +kernel
theorem dX10_cut_42 : decode cX10_cut 42 = .ok (.aload_n 0, 1) := by decide +kernel
theorem dX10_cut_43 : decode cX10_cut 43 = .ok (.getfield 54, 3) := by decide +kernel
theorem dX10_cut_46 : decode cX10_cut 46 = .ok (.if_icmp .le 6, 3) := by decide +kernel
theorem dX10_cut_49 : decode cX10_cut 49 = .ok (.bipush (-4), 2) := by decide +kernel
theorem dX10_cut_51 : decode cX10_cut 51 = .ok (.ireturn, 1) := by decide +kernel
theorem dX10_cut_52 : decode cX10_cut 52 = .ok (.aload_n 0, 1) := by decide +kernel
theorem dX10_cut_53 : decode cX10_cut 53 = .ok (.iconst 1, 1) := by decide +kernel
theorem dX10_cut_54 : decode cX10_cut 54 = .ok (.putfield 114, 3) := by decide +kernel
theorem dX10_cut_57 : decode cX10_cut 57 = .ok (.iconst 0, 1) := by decide +kernel
theorem dX10_cut_58 : decode cX10_cut 58 = .ok (.istore 4, 2) := by decide +kernel
theorem dX10_cut_60 : decode cX10_cut 60 = .ok (.iload 4, 2) := by decide +kernel
theorem dX10_cut_62 : decode cX10_cut 62 = .ok (.aload_n 0, 1) := by decide +kernel
theorem dX10_cut_63 : decode cX10_cut 63 = .ok (.invokevirtual 97, 3) := by decide +kernel
theorem dX10_cut_66 : decode cX10_cut 66 = .ok (.if_icmp .ge 51, 3) := by decide +kernel
theorem dX10_cut_69 : decode cX10_cut 69 = .ok (.aload_n 0, 1) := by decide +kernel
theorem dX10_cut_70 : decode cX10_cut 70 = .ok (.getfield 57, 3) := by decide +kernel
theorem dX10_cut_73 : decode cX10_cut 73 = .ok (.iload 4, 2) := by decide +kernel
theorem dX10_cut_75 : decode cX10_cut 75 = .ok (.iload_n 1, 1) := by decide +kernel
theorem dX10_cut_76 : decode cX10_cut 76 = .ok (.iload_n 2, 1) := by decide +kernel
theorem dX10_cut_77 : decode cX10_cut 77 = .ok (.aload_n 0, 1) := by decide +kernel
theorem dX10_cut_78 : decode cX10_cut 78 = .ok (.getfield 13, 3) := by decide +kernel
theorem dX10_cut_81 : decode cX10_cut 81 = .ok (.iload 4, 2) := by decide +kernel
theorem dX10_cut_83 : decode cX10_cut 83 = .ok (.iaload, 1) := by decide +kernel
theorem dX10_cut_84 : decode cX10_cut 84 = .ok (.aload_n 0, 1) := by decide +kernel
theorem dX10_cut_85 : decode cX10_cut 85 = .ok (.getfield 17, 3) := by decide +kernel
theorem dX10_cut_88 : decode cX10_cut 88 = .ok (.iload 4, 2) := by decide +kernel
theorem dX10_cut_90 : decode cX10_cut 90 = .ok (.iaload, 1) := by decide +kernel
theorem dX10_cut_91 : decode cX10_cut 91 = .ok (.aload_n 0, 1) := by decide +kernel
theorem dX10_cut_92 : decode cX10_cut 92 = .ok (.getfield 20, 3) := by decide +kernel
theorem dX10_cut_95 : decode cX10_cut 95 = .ok (.iload 4, 2) := by decide +kernel
theorem dX10_cut_97 : decode cX10_cut 97 = .ok (.iaload, 1) := by decide +kernel
theorem dX10_cut_98 : decode cX10_cut 98 = .ok (.invokestatic 142, 3) := by decide +kernel
theorem dX10_cut_101 : decode cX10_cut 101 = .ok (.iload_n 3, 1) := by decide +kernel
theorem dX10_cut_102 : decode cX10_cut 102 = .ok (.if_icmp .ne 7, 3) := by decide +kernel
theorem dX10_cut_105 : decode cX10_cut 105 = .ok (.iconst 1, 1) := by decide +kernel
theorem dX10_cut_106 : decode cX10_cut 106 = .ok (.goto 4, 3) := by decide +kernel
theorem dX10_cut_109 : decode cX10_cut 109 = .ok (.iconst 0, 1) := by decide +kernel
theorem dX10_cut_110 : decode cX10_cut 110 = .ok (.bastore, 1) := by decide +kernel
theorem dX10_cut_111 : decode cX10_cut 111 = .ok (.iinc 4 1, 3) := by decide +kernel
theorem dX10_cut_114 : decode cX10_cut 114 = .ok (.goto (-54), 3) := by decide +kernel
theorem dX10_cut_117 : decode cX10_cut 117 = .ok (.aload_n 0, 1) := by decide +kernel
theorem dX10_cut_118 : decode cX10_cut 118 = .ok (.iload_n 1, 1) := by decide +kernel
theorem dX10_cut_119 : decode cX10_cut 119 = .ok (.iload_n 2, 1) := by decide +kernel
theorem dX10_cut_120 : decode cX10_cut 120 = .ok (.iload_n 3, 1) := by decide +kernel
theorem dX10_cut_121 : decode cX10_cut 121 = .ok (.invokevirtual 193, 3) := by decide +kernel
theorem dX10_cut_124 : decode cX10_cut 124 = .ok (.ireturn, 1) := by decide +kernel
theorem dX10_hang_0 : decode cX10_hang 0 = .ok (.iconst 0, 1) := by decide +kernel
theorem dX10_hang_1 : decode cX10_hang 1 = .ok (.istore_n 1, 1) := by decide +kernel
theorem dX10_hang_2 : decode cX10_hang 2 = .ok (.iload_n 1, 1) := by decide +kernel
theorem dX10_hang_3 : decode cX10_hang 3 = .ok (.aload_n 0, 1) := by decide +kernel
theorem dX10_hang_4 : decode cX10_hang 4 = .ok (.invokevirtual 97, 3) := by decide +kernel
theorem dX10_hang_7 : decode cX10_hang 7 = .ok (.if_icmp .ge 16, 3) := by decide +kernel
theorem dX10_hang_10 : decode cX10_hang 10 = .ok (.aload_n 0, 1) := by decide +kernel
theorem dX10_hang_11 : decode cX10_hang 11 = .ok (.getfield 63, 3) := by decide +kernel
theorem dX10_hang_14 : decode cX10_hang 14 = .ok (.iload_n 1, 1) := by decide +kernel
theorem dX10_hang_15 : decode cX10_hang 15 = .ok (.iload_n 1, 1) := by decide +kernel
theorem dX10_hang_16 : decode cX10_hang 16 = .ok (.iastore, 1) := by decide +kernel
theorem dX10_hang_17 : decode cX10_hang 17 = .ok (.iinc 1 1, 3) := by decide +kernel
theorem dX10_hang_20 : decode cX10_hang 20 = .ok (.goto (-18), 3) := by decide +kernel
theorem dX10_hang_23 : decode cX10_hang 23 = .ok (.iconst 1, 1) := by decide +kernel
theorem dX10_hang_24 : decode cX10_hang 24 = .ok (.istore_n 1, 1) := by decide +kernel
theorem dX10_hang_25 : decode cX10_hang 25 = .ok (.iload_n 1, 1) := by decide +kernel
theorem dX10_hang_26 : decode cX10_hang 26 = .ok (.ifCond .eq 99, 3) := by decide +kernel
theorem dX10_hang_29 : decode cX10_hang 29 = .ok (.iconst 0, 1) := by decide +kernel
theorem dX10_hang_30 : decode cX10_hang 30 = .ok (.istore_n 1, 1) := by decide +kernel
theorem dX10_hang_31 : decode cX10_hang 31 = .ok (.iconst 0, 1) := by decide +kernel
theorem dX10_hang_32 : decode cX10_hang 32 = .ok (.istore_n 2, 1) := by decide +kernel
theorem dX10_hang_33 : decode cX10_hang 33 = .ok (.iload_n 2, 1) := by decide +kernel
theorem dX10_hang_34 : decode cX10_hang 34 = .ok (.aload_n 0, 1) := by decide +kernel
theorem dX10_hang_35 : decode cX10_hang 35 = .ok (.invokevirtual 97, 3) := by decide +kernel
theorem dX10_hang_38 : decode cX10_hang 38 = .ok (.if_icmp .ge 84, 3) := by decide +kernel
theorem dX10_hang_41 : decode cX10_hang 41 = .ok (.iconst 0, 1) := by decide +kernel
theorem dX10_hang_42 : decode cX10_hang 42 = .ok (.istore_n 3, 1) := by decide +kernel
theorem dX10_hang_43 : decode cX10_hang 43 = .ok (.iload_n 3, 1) := by decide +kernel
theorem dX10_hang_44 : decode cX10_hang 44 = .ok (.iconst 3, 1) := by decide +kernel
theorem dX10_hang_45 : decode cX10_hang 45 = .ok (.if_icmp .ge 71, 3) := by decide +kernel
theorem dX10_hang_48 : decode cX10_hang 48 = .ok (.aload_n 0, 1) := by decide +kernel
theorem dX10_hang_49 : decode cX10_hang 49 = .ok (.iload_n 2, 1) := by decide +kernel
theorem dX10_hang_50 : decode cX10_hang 50 = .ok (.iload_n 3, 1) := by decide +kernel
theorem dX10_hang_51 : decode cX10_hang 51 = .ok (.invokevirtual 149, 3) := by decide +kernel
theorem dX10_hang_54 : decode cX10_hang 54 = .ok (.istore 4, 2) := by decide +kernel
theorem dX10_hang_56 : decode cX10_hang 56 = .ok (.iload 4, 2) := by decide +kernel
theorem dX10_hang_58 : decode cX10_hang 58 = .ok (.ldc 135, 2) := by decide +kernel
theorem dX10_hang_60 : decode cX10_hang 60 = .ok (.if_icmp .eq 50, 3) := by decide +kernel
theorem dX10_hang_63 : decode cX10_hang 63 = .ok (.aload_n 0, 1) := by decide +kernel
theorem dX10_hang_64 : decode cX10_hang 64 = .ok (.getfield 57, 3) := by decide +kernel
theorem dX10_hang_67 : decode cX10_hang 67 = .ok (.iload_n 2, 1) := by decide +kernel
theorem dX10_hang_68 : decode cX10_hang 68 = .ok (.baload, 1) := by decide +kernel
theorem dX10_hang_69 : decode cX10_hang 69 = .ok (.aload_n 0, 1) := by decide +kernel
theorem dX10_hang_70 : decode cX10_hang 70 = .ok (.getfield 57, 3) := by decide +kernel
theorem dX10_hang_73 : decode cX10_hang 73 = .ok (.iload 4, 2) := by decide +kernel
theorem dX10_hang_75 : decode cX10_hang 75 = .ok (.baload, 1) := by decide +kernel
theorem dX10_hang_76 : decode cX10_hang 76 = .ok (.if_icmp .ne 34, 3) := by decide +kernel
theorem dX10_hang_79 : decode cX10_hang 79 = .ok (.aload_n 0, 1) := by decide +kernel
theorem dX10_hang_80 : decode cX10_hang 80 = .ok (.getfield 63, 3) := by decide +kernel
theorem dX10_hang_83 : decode cX10_hang 83 = .ok (.iload 4, 2) := by decide +kernel
theorem dX10_hang_85 : decode cX10_hang 85 = .ok (.iaload, 1) := by decide +kernel
theorem dX10_hang_86 : decode cX10_hang 86 = .ok (.aload_n 0, 1) := by decide +kernel
theorem dX10_hang_87 : decode cX10_hang 87 = .ok (.getfield 63, 3) := by decide +kernel
theorem dX10_hang_90 : decode cX10_hang 90 = .ok (.iload_n 2, 1) := by decide +kernel
theorem dX10_hang_91 : decode cX10_hang 91 = .ok (.iaload, 1) := by decide +kernel
theorem dX10_hang_92 : decode cX10_hang 92 = .ok (.if_icmp .ge 18, 3) := by decide +kernel
theorem dX10_hang_95 : decode cX10_hang 95 = .ok (.aload_n 0, 1) := by decide +kernel
theorem dX10_hang_96 : decode cX10_hang 96 = .ok (.getfield 63, 3) := by decide +kernel
theorem dX10_hang_99 : decode cX10_hang 99 = .ok (.iload_n 2, 1) := by decide +kernel
theorem dX10_hang_100 : decode cX10_hang 100 = .ok (.aload_n 0, 1) := by decide +kernel
theorem dX10_hang_101 : decode cX10_hang 101 = .ok (.getfield 63, 3) := by decide +kernel
theorem dX10_hang_104 : decode cX10_hang 104 = .ok (.iload 4, 2) := by decide +kernel
theorem dX10_hang_106 : decode cX10_hang 106 = .ok (.iaload, 1) := by decide +kernel
theorem dX10_hang_107 : decode cX10_hang 107 = .ok (.iastore, 1) := by decide +kernel
theorem dX10_hang_108 : decode cX10_hang 108 = .ok (.iconst 1, 1) := by decide +kernel
theorem dX10_hang_109 : decode cX10_hang 109 = .ok (.istore_n 1, 1) := by decide +kernel
theorem dX10_hang_110 : decode cX10_hang 110 = .ok (.iinc 3 1, 3) := by decide +kernel
theorem dX10_hang_113 : decode cX10_hang 113 = .ok (.goto (-70), 3) := by decide +kernel
theorem dX10_hang_116 : decode cX10_hang 116 = .ok (.iinc 2 1, 3) := by decide +kernel
theorem dX10_hang_119 : decode cX10_hang 119 = .ok (.goto (-86), 3) := by decide +kernel
theorem dX10_hang_122 : decode cX10_hang 122 = .ok (.goto (-97), 3) := by decide +kernel
theorem dX10_hang_125 : decode cX10_hang 125 = .ok (.return_, 1) := by decide +kernel
theorem dX10_pieces_0 : decode cX10_pieces 0 = .ok (.aload_n 0, 1) := by decide +kernel
theorem dX10_pieces_1 : decode cX10_pieces 1 = .ok (.iconst 0, 1) := by decide +kernel
theorem dX10_pieces_2 : decode cX10_pieces 2 = .ok (.putfield 94, 3) := by decide +kernel
theorem dX10_pieces_5 : decode cX10_pieces 5 = .ok (.aload_n 0, 1) := by decide +kernel
theorem dX10_pieces_6 : decode cX10_pieces 6 = .ok (.invokevirtual 196, 3) := by decide +kernel
theorem dX10_pieces_9 : decode cX10_pieces 9 = .ok (.iconst 0, 1) := by decide +kernel
theorem dX10_pieces_10 : decode cX10_pieces 10 = .ok (.istore_n 2, 1) := by decide +kernel
theorem dX10_pieces_11 : decode cX10_pieces 11 = .ok (.iconst 0, 1) := by decide +kernel
theorem dX10_pieces_12 : decode cX10_pieces 12 = .ok (.istore_n 3, 1) := by decide +kernel
theorem dX10_pieces_13 : decode cX10_pieces 13 = .ok (.iload_n 3, 1) := by decide +kernel
theorem dX10_pieces_14 : decode cX10_pieces 14 = .ok (.aload_n 0, 1) := by decide +kernel
theorem dX10_pieces_15 : decode cX10_pieces 15 = .ok (.invokevirtual 97, 3) := by decide +kernel
theorem dX10_pieces_18 : decode cX10_pieces 18 = .ok (.if_icmp .ge 37, 3) := by decide +kernel
theorem dX10_pieces_21 : decode cX10_pieces 21 = .ok (.iload_n 2, 1) := by decide +kernel
theorem dX10_pieces_22 : decode cX10_pieces 22 = .ok (.aload_n 0, 1) := by decide +kernel
theorem dX10_pieces_23 : decode cX10_pieces 23 = .ok (.getfield 63, 3) := by decide +kernel
theorem dX10_pieces_26 : decode cX10_pieces 26 = .ok (.iload_n 3, 1) := by decide +kernel
theorem dX10_pieces_27 : decode cX10_pieces 27 = .ok (.iaload, 1) := by decide +kernel
theorem dX10_pieces_28 : decode cX10_pieces 28 = .ok (.iload_n 3, 1) := by decide +kernel
theorem dX10_pieces_29 : decode cX10_pieces 29 = .ok (.if_icmp .ne 17, 3) := by decide +kernel
theorem dX10_pieces_32 : decode cX10_pieces 32 = .ok (.aload_n 0, 1) := by decide +kernel
theorem dX10_pieces_33 : decode cX10_pieces 33 = .ok (.getfield 57, 3) := by decide +kernel
theorem dX10_pieces_36 : decode cX10_pieces 36 = .ok (.iload_n 3, 1) := by decide +kernel
theorem dX10_pieces_37 : decode cX10_pieces 37 = .ok (.baload, 1) := by decide +kernel
theorem dX10_pieces_38 : decode cX10_pieces 38 = .ok (.iload_n 1, 1) := by decide +kernel
theorem dX10_pieces_39 : decode cX10_pieces 39 = .ok (.if_icmp .eq 7, 3) := by decide +kernel
theorem dX10_pieces_42 : decode cX10_pieces 42 = .ok (.iconst 1, 1) := by decide +kernel
theorem dX10_pieces_43 : decode cX10_pieces 43 = .ok (.goto 4, 3) := by decide +kernel
theorem dX10_pieces_46 : decode cX10_pieces 46 = .ok (.iconst 0, 1) := by decide +kernel
theorem dX10_pieces_47 : decode cX10_pieces 47 = .ok (.iadd, 1) := by decide +kernel
theorem dX10_pieces_48 : decode cX10_pieces 48 = .ok (.istore_n 2, 1) := by decide +kernel
theorem dX10_pieces_49 : decode cX10_pieces 49 = .ok (.iinc 3 1, 3) := by decide +kernel
theorem dX10_pieces_52 : decode cX10_pieces 52 = .ok (.goto (-39), 3) := by decide +kernel
theorem dX10_pieces_55 : decode cX10_pieces 55 = .ok (.iload_n 2, 1) := by decide +kernel
theorem dX10_pieces_56 : decode cX10_pieces 56 = .ok (.ireturn, 1) := by decide +kernel
theorem dX10_holes_0 : decode cX10_holes 0 = .ok (.aload_n 0, 1) := by decide +kernel
theorem dX10_holes_1 : decode cX10_holes 1 = .ok (.iconst 0, 1) := by decide +kernel
theorem dX10_holes_2 : decode cX10_holes 2 = .ok (.putfield 94, 3) := by decide +kernel
theorem dX10_holes_5 : decode cX10_holes 5 = .ok (.aload_n 0, 1) := by decide +kernel
theorem dX10_holes_6 : decode cX10_holes 6 = .ok (.invokevirtual 196, 3) := by decide +kernel
theorem dX10_holes_9 : decode cX10_holes 9 = .ok (.iconst 0, 1) := by decide +kernel
theorem dX10_holes_10 : decode cX10_holes 10 = .ok (.istore_n 1, 1) := by decide +kernel
theorem dX10_holes_11 : decode cX10_holes 11 = .ok (.iconst 0, 1) := by decide +kernel
theorem dX10_holes_12 : decode cX10_holes 12 = .ok (.istore_n 2, 1) := by decide +kernel
theorem dX10_holes_13 : decode cX10_holes 13 = .ok (.iload_n 2, 1) := by decide +kernel
theorem dX10_holes_14 : decode cX10_holes 14 = .ok (.aload_n 0, 1) := by decide +kernel
theorem dX10_holes_15 : decode cX10_holes 15 = .ok (.invokevirtual 97, 3) := by decide +kernel
theorem dX10_holes_18 : decode cX10_holes 18 = .ok (.if_icmp .ge 97, 3) := by decide +kernel
theorem dX10_holes_21 : decode cX10_holes 21 = .ok (.aload_n 0, 1) := by decide +kernel
theorem dX10_holes_22 : decode cX10_holes 22 = .ok (.getfield 63, 3) := by decide +kernel
theorem dX10_holes_25 : decode cX10_holes 25 = .ok (.iload_n 2, 1) := by decide +kernel
theorem dX10_holes_26 : decode cX10_holes 26 = .ok (.iaload, 1) := by decide +kernel
theorem dX10_holes_27 : decode cX10_holes 27 = .ok (.iload_n 2, 1) := by decide +kernel
theorem dX10_holes_28 : decode cX10_holes 28 = .ok (.if_icmp .ne 16, 3) := by decide +kernel
theorem dX10_holes_31 : decode cX10_holes 31 = .ok (.aload_n 0, 1) := by decide +kernel
theorem dX10_holes_32 : decode cX10_holes 32 = .ok (.getfield 57, 3) := by decide +kernel
theorem dX10_holes_35 : decode cX10_holes 35 = .ok (.iload_n 2, 1) := by decide +kernel
theorem dX10_holes_36 : decode cX10_holes 36 = .ok (.baload, 1) := by decide +kernel
theorem dX10_holes_37 : decode cX10_holes 37 = .ok (.ifCond .eq 7, 3) := by decide +kernel
theorem dX10_holes_40 : decode cX10_holes 40 = .ok (.iconst 1, 1) := by decide +kernel
theorem dX10_holes_41 : decode cX10_holes 41 = .ok (.goto 4, 3) := by decide +kernel
theorem dX10_holes_44 : decode cX10_holes 44 = .ok (.iconst 0, 1) := by decide +kernel
theorem dX10_holes_45 : decode cX10_holes 45 = .ok (.istore_n 3, 1) := by decide +kernel
theorem dX10_holes_46 : decode cX10_holes 46 = .ok (.iconst 0, 1) := by decide +kernel
theorem dX10_holes_47 : decode cX10_holes 47 = .ok (.istore 4, 2) := by decide +kernel
theorem dX10_holes_49 : decode cX10_holes 49 = .ok (.iload 4, 2) := by decide +kernel
theorem dX10_holes_51 : decode cX10_holes 51 = .ok (.aload_n 0, 1) := by decide +kernel
theorem dX10_holes_52 : decode cX10_holes 52 = .ok (.invokevirtual 97, 3) := by decide +kernel
theorem dX10_holes_55 : decode cX10_holes 55 = .ok (.if_icmp .ge 42, 3) := by decide +kernel
theorem dX10_holes_58 : decode cX10_holes 58 = .ok (.iload_n 3, 1) := by decide +kernel
theorem dX10_holes_59 : decode cX10_holes 59 = .ok (.ifCond .eq 38, 3) := by decide +kernel
theorem dX10_holes_62 : decode cX10_holes 62 = .ok (.aload_n 0, 1) := by decide +kernel
theorem dX10_holes_63 : decode cX10_holes 63 = .ok (.getfield 63, 3) := by decide +kernel
theorem dX10_holes_66 : decode cX10_holes 66 = .ok (.iload 4, 2) := by decide +kernel
theorem dX10_holes_68 : decode cX10_holes 68 = .ok (.iaload, 1) := by decide +kernel
theorem dX10_holes_69 : decode cX10_holes 69 = .ok (.iload_n 2, 1) := by decide +kernel
theorem dX10_holes_70 : decode cX10_holes 70 = .ok (.if_icmp .ne 15, 3) := by decide +kernel
theorem dX10_holes_73 : decode cX10_holes 73 = .ok (.aload_n 0, 1) := by decide +kernel
theorem dX10_holes_74 : decode cX10_holes 74 = .ok (.iload 4, 2) := by decide +kernel
theorem dX10_holes_76 : decode cX10_holes 76 = .ok (.iconst 0, 1) := by decide +kernel
theorem dX10_holes_77 : decode cX10_holes 77 = .ok (.invokevirtual 149, 3) := by decide +kernel
theorem dX10_holes_80 : decode cX10_holes 80 = .ok (.ldc 135, 2) := by decide +kernel
theorem dX10_holes_82 : decode cX10_holes 82 = .ok (.if_icmp .eq 7, 3) := by decide +kernel
theorem dX10_holes_85 : decode cX10_holes 85 = .ok (.iconst 1, 1) := by decide +kernel
theorem dX10_holes_86 : decode cX10_holes 86 = .ok (.goto 4, 3) := by decide +kernel
theorem dX10_holes_89 : decode cX10_holes 89 = .ok (.iconst 0, 1) := by decide +kernel
theorem dX10_holes_90 : decode cX10_holes 90 = .ok (.istore_n 3, 1) := by decide +kernel
theorem dX10_holes_91 : decode cX10_holes 91 = .ok (.iinc 4 1, 3) := by decide +kernel
theorem dX10_holes_94 : decode cX10_holes 94 = .ok (.goto (-45), 3) := by decide +kernel
theorem dX10_holes_97 : decode cX10_holes 97 = .ok (.iload_n 1, 1) := by decide +kernel
theorem dX10_holes_98 : decode cX10_holes 98 = .ok (.iload_n 3, 1) := by decide +kernel
theorem dX10_holes_99 : decode cX10_holes 99 = .ok (.ifCond .eq 7, 3) := by decide +kernel
theorem dX10_holes_102 : decode cX10_holes 102 = .ok (.iconst 1, 1) := by decide +kernel
theorem dX10_holes_103 : decode cX10_holes 103 = .ok (.goto 4, 3) := by decide +kernel
theorem dX10_holes_106 : decode cX10_holes 106 = .ok (.iconst 0, 1) := by decide +kernel
theorem dX10_holes_107 : decode cX10_holes 107 = .ok (.iadd, 1) := by decide +kernel
theorem dX10_holes_108 : decode cX10_holes 108 = .ok (.istore_n 1, 1) := by decide +kernel
theorem dX10_holes_109 : decode cX10_holes 109 = .ok (.iinc 2 1, 3) := by decide +kernel
theorem dX10_holes_112 : decode cX10_holes 112 = .ok (.goto (-99), 3) := by decide +kernel
theorem dX10_holes_115 : decode cX10_holes 115 = .ok (.iload_n 1, 1) := by decide +kernel
theorem dX10_holes_116 : decode cX10_holes 116 = .ok (.ireturn, 1) := by decide +kernel
theorem dX10_rims_0 : decode cX10_rims 0 = .ok (.aload_n 0, 1) := by decide +kernel
theorem dX10_rims_1 : decode cX10_rims 1 = .ok (.iconst 0, 1) := by decide +kernel
theorem dX10_rims_2 : decode cX10_rims 2 = .ok (.putfield 94, 3) := by decide +kernel
theorem dX10_rims_5 : decode cX10_rims 5 = .ok (.iconst 0, 1) := by decide +kernel
theorem dX10_rims_6 : decode cX10_rims 6 = .ok (.istore_n 2, 1) := by decide +kernel
theorem dX10_rims_7 : decode cX10_rims 7 = .ok (.iconst 0, 1) := by decide +kernel
theorem dX10_rims_8 : decode cX10_rims 8 = .ok (.istore_n 3, 1) := by decide +kernel
theorem dX10_rims_9 : decode cX10_rims 9 = .ok (.iload_n 3, 1) := by decide +kernel
theorem dX10_rims_10 : decode cX10_rims 10 = .ok (.aload_n 0, 1) := by decide +kernel
theorem dX10_rims_11 : decode cX10_rims 11 = .ok (.invokevirtual 97, 3) := by decide +kernel
theorem dX10_rims_14 : decode cX10_rims 14 = .ok (.if_icmp .ge 81, 3) := by decide +kernel
theorem dX10_rims_17 : decode cX10_rims 17 = .ok (.iconst 0, 1) := by decide +kernel
theorem dX10_rims_18 : decode cX10_rims 18 = .ok (.istore 4, 2) := by decide +kernel
theorem dX10_rims_20 : decode cX10_rims 20 = .ok (.iload 4, 2) := by decide +kernel
theorem dX10_rims_22 : decode cX10_rims 22 = .ok (.iconst 3, 1) := by decide +kernel
theorem dX10_rims_23 : decode cX10_rims 23 = .ok (.if_icmp .ge 66, 3) := by decide +kernel
theorem dX10_rims_26 : decode cX10_rims 26 = .ok (.aload_n 0, 1) := by decide +kernel
theorem dX10_rims_27 : decode cX10_rims 27 = .ok (.iload_n 3, 1) := by decide +kernel
theorem dX10_rims_28 : decode cX10_rims 28 = .ok (.iload 4, 2) := by decide +kernel
theorem dX10_rims_30 : decode cX10_rims 30 = .ok (.invokevirtual 149, 3) := by decide +kernel
theorem dX10_rims_33 : decode cX10_rims 33 = .ok (.istore 5, 2) := by decide +kernel
theorem dX10_rims_35 : decode cX10_rims 35 = .ok (.iload_n 2, 1) := by decide +kernel
theorem dX10_rims_36 : decode cX10_rims 36 = .ok (.iload 5, 2) := by decide +kernel
theorem dX10_rims_38 : decode cX10_rims 38 = .ok (.ldc 135, 2) := by decide +kernel
theorem dX10_rims_40 : decode cX10_rims 40 = .ok (.if_icmp .eq 40, 3) := by decide +kernel
theorem dX10_rims_43 : decode cX10_rims 43 = .ok (.aload_n 0, 1) := by decide +kernel
theorem dX10_rims_44 : decode cX10_rims 44 = .ok (.getfield 57, 3) := by decide +kernel
theorem dX10_rims_47 : decode cX10_rims 47 = .ok (.iload_n 3, 1) := by decide +kernel
theorem dX10_rims_48 : decode cX10_rims 48 = .ok (.baload, 1) := by decide +kernel
theorem dX10_rims_49 : decode cX10_rims 49 = .ok (.ifCond .eq 31, 3) := by decide +kernel
theorem dX10_rims_52 : decode cX10_rims 52 = .ok (.aload_n 0, 1) := by decide +kernel
theorem dX10_rims_53 : decode cX10_rims 53 = .ok (.getfield 57, 3) := by decide +kernel
theorem dX10_rims_56 : decode cX10_rims 56 = .ok (.iload 5, 2) := by decide +kernel
theorem dX10_rims_58 : decode cX10_rims 58 = .ok (.baload, 1) := by decide +kernel
theorem dX10_rims_59 : decode cX10_rims 59 = .ok (.ifCond .ne 21, 3) := by decide +kernel
theorem dX10_rims_62 : decode cX10_rims 62 = .ok (.iload 4, 2) := by decide +kernel
theorem dX10_rims_64 : decode cX10_rims 64 = .ok (.ifCond .le 7, 3) := by decide +kernel
theorem dX10_rims_67 : decode cX10_rims 67 = .ok (.iconst 1, 1) := by decide +kernel
theorem dX10_rims_68 : decode cX10_rims 68 = .ok (.goto 4, 3) := by decide +kernel
theorem dX10_rims_71 : decode cX10_rims 71 = .ok (.iconst 0, 1) := by decide +kernel
theorem dX10_rims_72 : decode cX10_rims 72 = .ok (.iload_n 1, 1) := by decide +kernel
theorem dX10_rims_73 : decode cX10_rims 73 = .ok (.if_icmp .ne 7, 3) := by decide +kernel
theorem dX10_rims_76 : decode cX10_rims 76 = .ok (.iconst 1, 1) := by decide +kernel
theorem dX10_rims_77 : decode cX10_rims 77 = .ok (.goto 4, 3) := by decide +kernel
theorem dX10_rims_80 : decode cX10_rims 80 = .ok (.iconst 0, 1) := by decide +kernel
theorem dX10_rims_81 : decode cX10_rims 81 = .ok (.iadd, 1) := by decide +kernel
theorem dX10_rims_82 : decode cX10_rims 82 = .ok (.istore_n 2, 1) := by decide +kernel
theorem dX10_rims_83 : decode cX10_rims 83 = .ok (.iinc 4 1, 3) := by decide +kernel
theorem dX10_rims_86 : decode cX10_rims 86 = .ok (.goto (-66), 3) := by decide +kernel
theorem dX10_rims_89 : decode cX10_rims 89 = .ok (.iinc 3 1, 3) := by decide +kernel
theorem dX10_rims_92 : decode cX10_rims 92 = .ok (.goto (-83), 3) := by decide +kernel
theorem dX10_rims_95 : decode cX10_rims 95 = .ok (.iload_n 2, 1) := by decide +kernel
theorem dX10_rims_96 : decode cX10_rims 96 = .ok (.ireturn, 1) := by decide +kernel
theorem dX10_piece_0 : decode cX10_piece 0 = .ok (.aload_n 0, 1) := by decide +kernel
theorem dX10_piece_1 : decode cX10_piece 1 = .ok (.iconst 0, 1) := by decide +kernel
theorem dX10_piece_2 : decode cX10_piece 2 = .ok (.putfield 94, 3) := by decide +kernel
theorem dX10_piece_5 : decode cX10_piece 5 = .ok (.aload_n 0, 1) := by decide +kernel
theorem dX10_piece_6 : decode cX10_piece 6 = .ok (.iload_n 1, 1) := by decide +kernel
