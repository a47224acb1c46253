theorem dX6_init_0 : decode cX6_init 0 = .ok (.aload_n 0, 1) := by decide +kernel
theorem dX6_init_1 : decode cX6_init 1 = .ok (.invokespecial 1, 3) := by decide +kernel
theorem dX6_init_4 : decode cX6_init 4 = .ok (.aload_n 0, 1) := by decide +kernel
theorem dX6_init_5 : decode cX6_init 5 = .ok (.sipush 395, 3) := by decide +kernel
theorem dX6_init_8 : decode cX6_init 8 = .ok (.newarray .int, 2) := by decide +kernel
theorem dX6_init_10 : decode cX6_init 10 = .ok (.putfield 7, 3) := by decide +kernel
theorem dX6_init_13 : decode cX6_init 13 = .ok (.aload_n 0, 1) := by decide +kernel
theorem dX6_init_14 : decode cX6_init 14 = .ok (.sipush 395, 3) := by decide +kernel
theorem dX6_init_17 : decode cX6_init 17 = .ok (.newarray .int, 2) := by decide +kernel
theorem dX6_init_19 : decode cX6_init 19 = .ok (.putfield 13, 3) := by decide +kernel
theorem dX6_init_22 : decode cX6_init 22 = .ok (.aload_n 0, 1) := by decide +kernel
theorem dX6_init_23 : decode cX6_init 23 = .ok (.sipush 1975, 3) := by decide +kernel
theorem dX6_init_26 : decode cX6_init 26 = .ok (.newarray .int, 2) := by decide +kernel
theorem dX6_init_28 : decode cX6_init 28 = .ok (.putfield 16, 3) := by decide +kernel
theorem dX6_init_31 : decode cX6_init 31 = .ok (.aload_n 0, 1) := by decide +kernel
theorem dX6_init_32 : decode cX6_init 32 = .ok (.iconst 3, 1) := by decide +kernel
theorem dX6_init_33 : decode cX6_init 33 = .ok (.newarray .int, 2) := by decide +kernel
theorem dX6_init_35 : decode cX6_init 35 = .ok (.putfield 19, 3) := by decide +kernel
theorem dX6_init_38 : decode cX6_init 38 = .ok (.aload_n 0, 1) := by decide +kernel
theorem dX6_init_39 : decode cX6_init 39 = .ok (.sipush 150, 3) := by decide +kernel
theorem dX6_init_42 : decode cX6_init 42 = .ok (.newarray .int, 2) := by decide +kernel
theorem dX6_init_44 : decode cX6_init 44 = .ok (.putfield 22, 3) := by decide +kernel
theorem dX6_init_47 : decode cX6_init 47 = .ok (.aload_n 0, 1) := by decide +kernel
theorem dX6_init_48 : decode cX6_init 48 = .ok (.iconst 3, 1) := by decide +kernel
theorem dX6_init_49 : decode cX6_init 49 = .ok (.newarray .int, 2) := by decide +kernel
theorem dX6_init_51 : decode cX6_init 51 = .ok (.putfield 25, 3) := by decide +kernel
theorem dX6_init_54 : decode cX6_init 54 = .ok (.aload_n 0, 1) := by decide +kernel
theorem dX6_init_55 : decode cX6_init 55 = .ok (.bipush 16, 2) := by decide +kernel
theorem dX6_init_57 : decode cX6_init 57 = .ok (.newarray .int, 2) := by decide +kernel
theorem dX6_init_59 : decode cX6_init 59 = .ok (.putfield 28, 3) := by decide +kernel
theorem dX6_init_62 : decode cX6_init 62 = .ok (.aload_n 0, 1) := by decide +kernel
theorem dX6_init_63 : decode cX6_init 63 = .ok (.bipush 16, 2) := by decide +kernel
theorem dX6_init_65 : decode cX6_init 65 = .ok (.newarray .int, 2) := by decide +kernel
theorem dX6_init_67 : decode cX6_init 67 = .ok (.putfield 31, 3) := by decide +kernel
theorem dX6_init_70 : decode cX6_init 70 = .ok (.aload_n 0, 1) := by decide +kernel
theorem dX6_init_71 : decode cX6_init 71 = .ok (.bipush 16, 2) := by decide +kernel
theorem dX6_init_73 : decode cX6_init 73 = .ok (.newarray .int, 2) := by decide +kernel
theorem dX6_init_75 : decode cX6_init 75 = .ok (.putfield 34, 3) := by decide +kernel
theorem dX6_init_78 : decode cX6_init 78 = .ok (.aload_n 0, 1) := by decide +kernel
theorem dX6_init_79 : decode cX6_init 79 = .ok (.bipush 16, 2) := by decide +kernel
theorem dX6_init_81 : decode cX6_init 81 = .ok (.newarray .int, 2) := by decide +kernel
theorem dX6_init_83 : decode cX6_init 83 = .ok (.putfield 37, 3) := by decide +kernel
theorem dX6_init_86 : decode cX6_init 86 = .ok (.aload_n 0, 1) := by decide +kernel
theorem dX6_init_87 : decode cX6_init 87 = .ok (.bipush 75, 2) := by decide +kernel
theorem dX6_init_89 : decode cX6_init 89 = .ok (.newarray .int, 2) := by decide +kernel
theorem dX6_init_91 : decode cX6_init 91 = .ok (.putfield 40, 3) := by decide +kernel
theorem dX6_init_94 : decode cX6_init 94 = .ok (.aload_n 0, 1) := by decide +kernel
theorem dX6_init_95 : decode cX6_init 95 = .ok (.sipush 375, 3) := by decide +kernel
theorem dX6_init_98 : decode cX6_init 98 = .ok (.newarray .int, 2) := by decide +kernel
theorem dX6_init_100 : decode cX6_init 100 = .ok (.putfield 43, 3) := by decide +kernel
theorem dX6_init_103 : decode cX6_init 103 = .ok (.aload_n 0, 1) := by decide +kernel
theorem dX6_init_104 : decode cX6_init 104 = .ok (.getfield 7, 3) := by decide +kernel
theorem dX6_init_107 : decode cX6_init 107 = .ok (.iconst 0, 1) := by decide +kernel
theorem dX6_init_108 : decode cX6_init 108 = .ok (.iconst 3, 1) := by decide +kernel
theorem dX6_init_109 : decode cX6_init 109 = .ok (.iastore, 1) := by decide +kernel
theorem dX6_init_110 : decode cX6_init 110 = .ok (.aload_n 0, 1) := by decide +kernel
theorem dX6_init_111 : decode cX6_init 111 = .ok (.getfield 7, 3) := by decide +kernel
theorem dX6_init_114 : decode cX6_init 114 = .ok (.iconst 1, 1) := by decide +kernel
theorem dX6_init_115 : decode cX6_init 115 = .ok (.iconst 3, 1) := by decide +kernel
theorem dX6_init_116 : decode cX6_init 116 = .ok (.iastore, 1) := by decide +kernel
theorem dX6_init_117 : decode cX6_init 117 = .ok (.aload_n 0, 1) := by decide +kernel
theorem dX6_init_118 : decode cX6_init 118 = .ok (.getfield 7, 3) := by decide +kernel
theorem dX6_init_121 : decode cX6_init 121 = .ok (.iconst 2, 1) := by decide +kernel
theorem dX6_init_122 : decode cX6_init 122 = .ok (.sipush 500, 3) := by decide +kernel
theorem dX6_init_125 : decode cX6_init 125 = .ok (.iastore, 1) := by decide +kernel
theorem dX6_init_126 : decode cX6_init 126 = .ok (.aload_n 0, 1) := by decide +kernel
theorem dX6_init_127 : decode cX6_init 127 = .ok (.getfield 7, 3) := by decide +kernel
theorem dX6_init_130 : decode cX6_init 130 = .ok (.iconst 3, 1) := by decide +kernel
theorem dX6_init_131 : decode cX6_init 131 = .ok (.sipush 700, 3) := by decide +kernel
theorem dX6_init_134 : decode cX6_init 134 = .ok (.iastore, 1) := by decide +kernel
theorem dX6_init_135 : decode cX6_init 135 = .ok (.aload_n 0, 1) := by decide +kernel
theorem dX6_init_136 : decode cX6_init 136 = .ok (.getfield 7, 3) := by decide +kernel
theorem dX6_init_139 : decode cX6_init 139 = .ok (.iconst 4, 1) := by decide +kernel
theorem dX6_init_140 : decode cX6_init 140 = .ok (.sipush 1100, 3) := by decide +kernel
theorem dX6_init_143 : decode cX6_init 143 = .ok (.iastore, 1) := by decide +kernel
theorem dX6_init_144 : decode cX6_init 144 = .ok (.aload_n 0, 1) := by decide +kernel
theorem dX6_init_145 : decode cX6_init 145 = .ok (.getfield 7, 3) := by decide +kernel
theorem dX6_init_148 : decode cX6_init 148 = .ok (.iconst 5, 1) := by decide +kernel
theorem dX6_init_149 : decode cX6_init 149 = .ok (.iconst 4, 1) := by decide +kernel
theorem dX6_init_150 : decode cX6_init 150 = .ok (.iastore, 1) := by decide +kernel
theorem dX6_init_151 : decode cX6_init 151 = .ok (.aload_n 0, 1) := by decide +kernel
theorem dX6_init_152 : decode cX6_init 152 = .ok (.getfield 7, 3) := by decide +kernel
theorem dX6_init_155 : decode cX6_init 155 = .ok (.bipush 6, 2) := by decide +kernel
theorem dX6_init_157 : decode cX6_init 157 = .ok (.bipush 20, 2) := by decide +kernel
theorem dX6_init_159 : decode cX6_init 159 = .ok (.iastore, 1) := by decide +kernel
theorem dX6_init_160 : decode cX6_init 160 = .ok (.aload_n 0, 1) := by decide +kernel
theorem dX6_init_161 : decode cX6_init 161 = .ok (.getfield 7, 3) := by decide +kernel
theorem dX6_init_164 : decode cX6_init 164 = .ok (.bipush 7, 2) := by decide +kernel
theorem dX6_init_166 : decode cX6_init 166 = .ok (.sipush 4000, 3) := by decide +kernel
theorem dX6_init_169 : decode cX6_init 169 = .ok (.iastore, 1) := by decide +kernel
theorem dX6_init_170 : decode cX6_init 170 = .ok (.aload_n 0, 1) := by decide +kernel
theorem dX6_init_171 : decode cX6_init 171 = .ok (.getfield 7, 3) := by decide +kernel
theorem dX6_init_174 : decode cX6_init 174 = .ok (.bipush 8, 2) := by decide +kernel
theorem dX6_init_176 : decode cX6_init 176 = .ok (.sipush 5000, 3) := by decide +kernel
theorem dX6_init_179 : decode cX6_init 179 = .ok (.iastore, 1) := by decide +kernel
theorem dX6_init_180 : decode cX6_init 180 = .ok (.aload_n 0, 1) := by decide +kernel
theorem dX6_init_181 : decode cX6_init 181 = .ok (.getfield 7, 3) := by decide +kernel
theorem dX6_init_184 : decode cX6_init 184 = .ok (.bipush 9, 2) := by decide +kernel
theorem dX6_init_186 : decode cX6_init 186 = .ok (.bipush 50, 2) := by decide +kernel
theorem dX6_init_188 : decode cX6_init 188 = .ok (.iastore, 1) := by decide +kernel
theorem dX6_init_189 : decode cX6_init 189 = .ok (.aload_n 0, 1) := by decide +kernel
theorem dX6_init_190 : decode cX6_init 190 = .ok (.getfield 7, 3) := by decide +kernel
theorem dX6_init_193 : decode cX6_init 193 = .ok (.bipush 10, 2) := by decide +kernel
theorem dX6_init_195 : decode cX6_init 195 = .ok (.bipush 10, 2) := by decide +kernel
theorem dX6_init_197 : decode cX6_init 197 = .ok (.iastore, 1) := by decide +kernel
theorem dX6_init_198 : decode cX6_init 198 = .ok (.return_, 1) := by decide +kernel
theorem dX6_in_0 : decode cX6_in 0 = .ok (.iload_n 0, 1) := by decide +kernel
theorem dX6_in_1 : decode cX6_in 1 = .ok (.iload_n 1, 1) := by decide +kernel
theorem dX6_in_2 : decode cX6_in 2 = .ok (.if_icmp .lt 12, 3) := by decide +kernel
theorem dX6_in_5 : decode cX6_in 5 = .ok (.iload_n 0, 1) := by decide +kernel
theorem dX6_in_6 : decode cX6_in 6 = .ok (.iload_n 2, 1) := by decide +kernel
theorem dX6_in_7 : decode cX6_in 7 = .ok (.if_icmp .gt 7, 3) := by decide +kernel
theorem dX6_in_10 : decode cX6_in 10 = .ok (.iconst 1, 1) := by decide +kernel
theorem dX6_in_11 : decode cX6_in 11 = .ok (.goto 4, 3) := by decide +kernel
theorem dX6_in_14 : decode cX6_in 14 = .ok (.iconst 0, 1) := by decide +kernel
theorem dX6_in_15 : decode cX6_in 15 = .ok (.ireturn, 1) := by decide +kernel
theorem dX6_bad_0 : decode cX6_bad 0 = .ok (.aload_n 0, 1) := by decide +kernel
theorem dX6_bad_1 : decode cX6_bad 1 = .ok (.getfield 19, 3) := by decide +kernel
theorem dX6_bad_4 : decode cX6_bad 4 = .ok (.iconst 0, 1) := by decide +kernel
theorem dX6_bad_5 : decode cX6_bad 5 = .ok (.dup2, 1) := by decide +kernel
theorem dX6_bad_6 : decode cX6_bad 6 = .ok (.iaload, 1) := by decide +kernel
theorem dX6_bad_7 : decode cX6_bad 7 = .ok (.iconst 1, 1) := by decide +kernel
theorem dX6_bad_8 : decode cX6_bad 8 = .ok (.iadd, 1) := by decide +kernel
theorem dX6_bad_9 : decode cX6_bad 9 = .ok (.iastore, 1) := by decide +kernel
theorem dX6_bad_10 : decode cX6_bad 10 = .ok (.sipush (-10002), 3) := by decide +kernel
theorem dX6_bad_13 : decode cX6_bad 13 = .ok (.ireturn, 1) := by decide +kernel
theorem dX6_no_0 : decode cX6_no 0 = .ok (.aload_n 0, 1) := by decide +kernel
theorem dX6_no_1 : decode cX6_no 1 = .ok (.getfield 19, 3) := by decide +kernel
theorem dX6_no_4 : decode cX6_no 4 = .ok (.iconst 1, 1) := by decide +kernel
theorem dX6_no_5 : decode cX6_no 5 = .ok (.dup2, 1) := by decide +kernel
theorem dX6_no_6 : decode cX6_no 6 = .ok (.iaload, 1) := by decide +kernel
theorem dX6_no_7 : decode cX6_no 7 = .ok (.iconst 1, 1) := by decide +kernel
theorem dX6_no_8 : decode cX6_no 8 = .ok (.iadd, 1) := by decide +kernel
theorem dX6_no_9 : decode cX6_no 9 = .ok (.iastore, 1) := by decide +kernel
theorem dX6_no_10 : decode cX6_no 10 = .ok (.sipush (-10003), 3) := by decide +kernel
theorem dX6_no_13 : decode cX6_no 13 = .ok (.ireturn, 1) := by decide +kernel
theorem dX6_laysAside_0 : decode cX6_laysAside 0 = .ok (.iconst 0, 1) := by decide +kernel
theorem dX6_laysAside_1 : decode cX6_laysAside 1 = .ok (.istore_n 1, 1) := by decide +kernel
theorem dX6_laysAside_2 : decode cX6_laysAside 2 = .ok (.iload_n 1, 1) := by decide +kernel
theorem dX6_laysAside_3 : decode cX6_laysAside 3 = .ok (.sipush 395, 3) := by decide +kernel
theorem dX6_laysAside_6 : decode cX6_laysAside 6 = .ok (.if_icmp .ge 21, 3) := by decide +kernel
theorem dX6_laysAside_9 : decode cX6_laysAside 9 = .ok (.aload_n 0, 1) := by decide +kernel
theorem dX6_laysAside_10 : decode cX6_laysAside 10 = .ok (.getfield 13, 3) := by decide +kernel
theorem dX6_laysAside_13 : decode cX6_laysAside 13 = .ok (.iload_n 1, 1) := by decide +kernel
theorem dX6_laysAside_14 : decode cX6_laysAside 14 = .ok (.aload_n 0, 1) := by decide +kernel
theorem dX6_laysAside_15 : decode cX6_laysAside 15 = .ok (.getfield 7, 3) := by decide +kernel
theorem dX6_laysAside_18 : decode cX6_laysAside 18 = .ok (.iload_n 1, 1) := by decide +kernel
theorem dX6_laysAside_19 : decode cX6_laysAside 19 = .ok (.iaload, 1) := by decide +kernel
theorem dX6_laysAside_20 : decode cX6_laysAside 20 = .ok (.iastore, 1) := by decide +kernel
theorem dX6_laysAside_21 : decode cX6_laysAside 21 = .ok (.iinc 1 1, 3) := by decide +kernel
theorem dX6_laysAside_24 : decode cX6_laysAside 24 = .ok (.goto (-22), 3) := by decide +kernel
theorem dX6_laysAside_27 : decode cX6_laysAside 27 = .ok (.return_, 1) := by decide +kernel
theorem dX6_remembers_0 : decode cX6_remembers 0 = .ok (.aload_n 0, 1) := by decide +kernel
theorem dX6_remembers_1 : decode cX6_remembers 1 = .ok (.getfield 46, 3) := by decide +kernel
theorem dX6_remembers_4 : decode cX6_remembers 4 = .ok (.iconst 5, 1) := by decide +kernel
theorem dX6_remembers_5 : decode cX6_remembers 5 = .ok (.if_icmp .ne 44, 3) := by decide +kernel
theorem dX6_remembers_8 : decode cX6_remembers 8 = .ok (.iconst 0, 1) := by decide +kernel
theorem dX6_remembers_9 : decode cX6_remembers 9 = .ok (.istore_n 1, 1) := by decide +kernel
theorem dX6_remembers_10 : decode cX6_remembers 10 = .ok (.iload_n 1, 1) := by decide +kernel
theorem dX6_remembers_11 : decode cX6_remembers 11 = .ok (.sipush 1580, 3) := by decide +kernel
theorem dX6_remembers_14 : decode cX6_remembers 14 = .ok (.if_icmp .ge 25, 3) := by decide +kernel
theorem dX6_remembers_17 : decode cX6_remembers 17 = .ok (.aload_n 0, 1) := by decide +kernel
theorem dX6_remembers_18 : decode cX6_remembers 18 = .ok (.getfield 16, 3) := by decide +kernel
theorem dX6_remembers_21 : decode cX6_remembers 21 = .ok (.iload_n 1, 1) := by decide +kernel
theorem dX6_remembers_22 : decode cX6_remembers 22 = .ok (.aload_n 0, 1) := by decide +kernel
theorem dX6_remembers_23 : decode cX6_remembers 23 = .ok (.getfield 16, 3) := by decide +kernel
theorem dX6_remembers_26 : decode cX6_remembers 26 = .ok (.iload_n 1, 1) := by decide +kernel
theorem dX6_remembers_27 : decode cX6_remembers 27 = .ok (.sipush 395, 3) := by decide +kernel
theorem dX6_remembers_30 : decode cX6_remembers 30 = .ok (.iadd, 1) := by decide +kernel
theorem dX6_remembers_31 : decode cX6_remembers 31 = .ok (.iaload, 1) := by decide +kernel
theorem dX6_remembers_32 : decode cX6_remembers 32 = .ok (.iastore, 1) := by decide +kernel
theorem dX6_remembers_33 : decode cX6_remembers 33 = .ok (.iinc 1 1, 3) := by decide +kernel
theorem dX6_remembers_36 : decode cX6_remembers 36 = .ok (.goto (-26), 3) := by decide +kernel
theorem dX6_remembers_39 : decode cX6_remembers 39 = .ok (.aload_n 0, 1) := by decide +kernel
theorem dX6_remembers_40 : decode cX6_remembers 40 = .ok (.dup, 1) := by decide +kernel
theorem dX6_remembers_41 : decode cX6_remembers 41 = .ok (.getfield 46, 3) := by decide +kernel
theorem dX6_remembers_44 : decode cX6_remembers 44 = .ok (.iconst 1, 1) := by decide +kernel
theorem dX6_remembers_45 : decode cX6_remembers 45 = .ok (.isub, 1) := by decide +kernel
theorem dX6_remembers_46 : decode cX6_remembers 46 = .ok (.putfield 46, 3) := by decide +kernel
theorem dX6_remembers_49 : decode cX6_remembers 49 = .ok (.iconst 0, 1) := by decide +kernel
theorem dX6_remembers_50 : decode cX6_remembers 50 = .ok (.istore_n 1, 1) := by decide +kernel
theorem dX6_remembers_51 : decode cX6_remembers 51 = .ok (.iload_n 1, 1) := by decide +kernel
theorem dX6_remembers_52 : decode cX6_remembers 52 = .ok (.sipush 395, 3) := by decide +kernel
theorem dX6_remembers_55 : decode cX6_remembers 55 = .ok (.if_icmp .ge 30, 3) := by decide +kernel
theorem dX6_remembers_58 : decode cX6_remembers 58 = .ok (.aload_n 0, 1) := by decide +kernel
theorem dX6_remembers_59 : decode cX6_remembers 59 = .ok (.getfield 16, 3) := by decide +kernel
theorem dX6_remembers_62 : decode cX6_remembers 62 = .ok (.sipush 395, 3) := by decide +kernel
theorem dX6_remembers_65 : decode cX6_remembers 65 = .ok (.aload_n 0, 1) := by decide +kernel
theorem dX6_remembers_66 : decode cX6_remembers 66 = .ok (.getfield 46, 3) := by decide +kernel
theorem dX6_remembers_69 : decode cX6_remembers 69 = .ok (.imul, 1) := by decide +kernel
theorem dX6_remembers_70 : decode cX6_remembers 70 = .ok (.iload_n 1, 1) := by decide +kernel
theorem dX6_remembers_71 : decode cX6_remembers 71 = .ok (.iadd, 1) := by decide +kernel
theorem dX6_remembers_72 : decode cX6_remembers 72 = .ok (.aload_n 0, 1) := by decide +kernel
theorem dX6_remembers_73 : decode cX6_remembers 73 = .ok (.getfield 13, 3) := by decide +kernel
theorem dX6_remembers_76 : decode cX6_remembers 76 = .ok (.iload_n 1, 1) := by decide +kernel
theorem dX6_remembers_77 : decode cX6_remembers 77 = .ok (.iaload, 1) := by decide +kernel
theorem dX6_remembers_78 : decode cX6_remembers 78 = .ok (.iastore, 1) := by decide +kernel
theorem dX6_remembers_79 : decode cX6_remembers 79 = .ok (.iinc 1 1, 3) := by decide +kernel
theorem dX6_remembers_82 : decode cX6_remembers 82 = .ok (.goto (-31), 3) := by decide +kernel
theorem dX6_remembers_85 : decode cX6_remembers 85 = .ok (.aload_n 0, 1) := by decide +kernel
theorem dX6_remembers_86 : decode cX6_remembers 86 = .ok (.dup, 1) := by decide +kernel
theorem dX6_remembers_87 : decode cX6_remembers 87 = .ok (.getfield 46, 3) := by decide +kernel
theorem dX6_remembers_90 : decode cX6_remembers 90 = .ok (.iconst 1, 1) := by decide +kernel
theorem dX6_remembers_91 : decode cX6_remembers 91 = .ok (.iadd, 1) := by decide +kernel
theorem dX6_remembers_92 : decode cX6_remembers 92 = .ok (.putfield 46, 3) := by decide +kernel
theorem dX6_remembers_95 : decode cX6_remembers 95 = .ok (.return_, 1) := by decide +kernel
theorem dX6_back_0 : decode cX6_back 0 = .ok (.aload_n 0, 1) := by decide +kernel
theorem dX6_back_1 : decode cX6_back 1 = .ok (.getfield 46, 3) := by decide +kernel
theorem dX6_back_4 : decode cX6_back 4 = .ok (.ifCond .ne 8, 3) := by decide +kernel
theorem dX6_back_7 : decode cX6_back 7 = .ok (.aload_n 0, 1) := by decide +kernel
theorem dX6_back_8 : decode cX6_back 8 = .ok (.invokevirtual 50, 3) := by decide +kernel
theorem dX6_back_11 : decode cX6_back 11 = .ok (.ireturn, 1) := by decide +kernel
theorem dX6_back_12 : decode cX6_back 12 = .ok (.aload_n 0, 1) := by decide +kernel
theorem dX6_back_13 : decode cX6_back 13 = .ok (.dup, 1) := by decide +kernel
theorem dX6_back_14 : decode cX6_back 14 = .ok (.getfield 46, 3) := by decide +kernel
theorem dX6_back_17 : decode cX6_back 17 = .ok (.iconst 1, 1) := by decide +kernel
theorem dX6_back_18 : decode cX6_back 18 = .ok (.isub, 1) := by decide +kernel
theorem dX6_back_19 : decode cX6_back 19 = .ok (.putfield 46, 3) := by decide +kernel
theorem dX6_back_22 : decode cX6_back 22 = .ok (.iconst 0, 1) := by decide +kernel
theorem dX6_back_23 : decode cX6_back 23 = .ok (.istore_n 1, 1) := by decide +kernel
theorem dX6_back_24 : decode cX6_back 24 = .ok (.iload_n 1, 1) := by decide +kernel
theorem dX6_back_25 : decode cX6_back 25 = .ok (.sipush 395, 3) := by decide +kernel
theorem dX6_back_28 : decode cX6_back 28 = .ok (.if_icmp .ge 30, 3) := by decide +kernel
theorem dX6_back_31 : decode cX6_back 31 = .ok (.aload_n 0, 1) := by decide +kernel
theorem dX6_back_32 : decode cX6_back 32 = .ok (.getfield 7, 3) := by decide +kernel
theorem dX6_back_35 : decode cX6_back 35 = .ok (.iload_n 1, 1) := by decide +kernel
theorem dX6_back_36 : decode cX6_back 36 = .ok (.aload_n 0, 1) := by decide +kernel
theorem dX6_back_37 : decode cX6_back 37 = .ok (.getfield 16, 3) := by decide +kernel
theorem dX6_back_40 : decode cX6_back 40 = .ok (.sipush 395, 3) := by decide +kernel
theorem dX6_back_43 : decode cX6_back 43 = .ok (.aload_n 0, 1) := by decide +kernel
theorem dX6_back_44 : decode cX6_back 44 = .ok (.getfield 46, 3) := by decide +kernel
theorem dX6_back_47 : decode cX6_back 47 = .ok (.imul, 1) := by decide +kernel
theorem dX6_back_48 : decode cX6_back 48 = .ok (.iload_n 1, 1) := by decide +kernel
theorem dX6_back_49 : decode cX6_back 49 = .ok (.iadd, 1) := by decide +kernel
theorem dX6_back_50 : decode cX6_back 50 = .ok (.iaload, 1) := by decide +kernel
theorem dX6_back_51 : decode cX6_back 51 = .ok (.iastore, 1) := by decide +kernel
theorem dX6_back_52 : decode cX6_back 52 = .ok (.iinc 1 1, 3) := by decide +kernel
theorem dX6_back_55 : decode cX6_back 55 = .ok (.goto (-31), 3) := by decide +kernel
theorem dX6_back_58 : decode cX6_back 58 = .ok (.aload_n 0, 1) := by decide +kernel
theorem dX6_back_59 : decode cX6_back 59 = .ok (.getfield 46, 3) := by decide +kernel
theorem dX6_back_62 : decode cX6_back 62 = .ok (.ireturn, 1) := by decide +kernel
theorem dX6_finished_0 : decode cX6_finished 0 = .ok (.iload_n 1, 1) := by decide +kernel
theorem dX6_finished_1 : decode cX6_finished 1 = .ok (.sipush (-10002), 3) := by decide +kernel
theorem dX6_finished_4 : decode cX6_finished 4 = .ok (.if_icmp .ne 8, 3) := by decide +kernel
theorem dX6_finished_7 : decode cX6_finished 7 = .ok (.aload_n 0, 1) := by decide +kernel
theorem dX6_finished_8 : decode cX6_finished 8 = .ok (.invokevirtual 54, 3) := by decide +kernel
theorem dX6_finished_11 : decode cX6_finished 11 = .ok (.ireturn, 1) := by decide +kernel
theorem dX6_finished_12 : decode cX6_finished 12 = .ok (.aload_n 0, 1) := by decide +kernel
theorem dX6_finished_13 : decode cX6_finished 13 = .ok (.invokevirtual 57, 3) := by decide +kernel
theorem dX6_finished_16 : decode cX6_finished 16 = .ok (.iload_n 1, 1) := by decide +kernel
theorem dX6_finished_17 : decode cX6_finished 17 = .ok (.ireturn, 1) := by decide +kernel
theorem dX6_isCell_0 : decode cX6_isCell 0 = .ok (.iload_n 1, 1) := by decide +kernel
theorem dX6_isCell_1 : decode cX6_isCell 1 = .ok (.iconst 0, 1) := by decide +kernel
theorem dX6_isCell_2 : decode cX6_isCell 2 = .ok (.iconst 1, 1) := by decide +kernel
theorem dX6_isCell_3 : decode cX6_isCell 3 = .ok (.invokestatic 60, 3) := by decide +kernel
theorem dX6_isCell_6 : decode cX6_isCell 6 = .ok (.ifCond .eq 39, 3) := by decide +kernel
theorem dX6_isCell_9 : decode cX6_isCell 9 = .ok (.iload_n 2, 1) := by decide +kernel
theorem dX6_isCell_10 : decode cX6_isCell 10 = .ok (.iconst 0, 1) := by decide +kernel
theorem dX6_isCell_11 : decode cX6_isCell 11 = .ok (.aload_n 0, 1) := by decide +kernel
theorem dX6_isCell_12 : decode cX6_isCell 12 = .ok (.getfield 7, 3) := by decide +kernel
theorem dX6_isCell_15 : decode cX6_isCell 15 = .ok (.iconst 0, 1) := by decide +kernel
theorem dX6_isCell_16 : decode cX6_isCell 16 = .ok (.iaload, 1) := by decide +kernel
theorem dX6_isCell_17 : decode cX6_isCell 17 = .ok (.iconst 1, 1) := by decide +kernel
theorem dX6_isCell_18 : decode cX6_isCell 18 = .ok (.isub, 1) := by decide +kernel
theorem dX6_isCell_19 : decode cX6_isCell 19 = .ok (.invokestatic 60, 3) := by decide +kernel
theorem dX6_isCell_22 : decode cX6_isCell 22 = .ok (.ifCond .eq 23, 3) := by decide +kernel
theorem dX6_isCell_25 : decode cX6_isCell 25 = .ok (.iload_n 3, 1) := by decide +kernel
theorem dX6_isCell_26 : decode cX6_isCell 26 = .ok (.iconst 0, 1) := by decide +kernel
theorem dX6_isCell_27 : decode cX6_isCell 27 = .ok (.aload_n 0, 1) := by decide +kernel
theorem dX6_isCell_28 : decode cX6_isCell 28 = .ok (.getfield 7, 3) := by decide +kernel
theorem dX6_isCell_31 : decode cX6_isCell 31 = .ok (.iconst 1, 1) := by decide +kernel
theorem dX6_isCell_32 : decode cX6_isCell 32 = .ok (.iaload, 1) := by decide +kernel
theorem dX6_isCell_33 : decode cX6_isCell 33 = .ok (.iconst 1, 1) := by decide +kernel
theorem dX6_isCell_34 : decode cX6_isCell 34 = .ok (.isub, 1) := by decide +kernel
theorem dX6_isCell_35 : decode cX6_isCell 35 = .ok (.invokestatic 60, 3) := by decide +kernel
theorem dX6_isCell_38 : decode cX6_isCell 38 = .ok (.ifCond .eq 7, 3) := by decide +kernel
theorem dX6_isCell_41 : decode cX6_isCell 41 = .ok (.iconst 1, 1) := by decide +kernel
theorem dX6_isCell_42 : decode cX6_isCell 42 = .ok (.goto 4, 3) := by decide +kernel
theorem dX6_isCell_45 : decode cX6_isCell 45 = .ok (.iconst 0, 1) := by decide +kernel
theorem dX6_isCell_46 : decode cX6_isCell 46 = .ok (.ireturn, 1) := by decide +kernel
theorem dX6_cellPlace_0 : decode cX6_cellPlace 0 = .ok (.bipush 11, 2) := by decide +kernel
theorem dX6_cellPlace_2 : decode cX6_cellPlace 2 = .ok (.sipush 192, 3) := by decide +kernel
theorem dX6_cellPlace_5 : decode cX6_cellPlace 5 = .ok (.iload_n 0, 1) := by decide +kernel
theorem dX6_cellPlace_6 : decode cX6_cellPlace 6 = .ok (.imul, 1) := by decide +kernel
theorem dX6_cellPlace_7 : decode cX6_cellPlace 7 = .ok (.iadd, 1) := by decide +kernel
theorem dX6_cellPlace_8 : decode cX6_cellPlace 8 = .ok (.bipush 12, 2) := by decide +kernel
theorem dX6_cellPlace_10 : decode cX6_cellPlace 10 = .ok (.iconst 4, 1) := by decide +kernel
theorem dX6_cellPlace_11 : decode cX6_cellPlace 11 = .ok (.iload_n 2, 1) := by decide +kernel
theorem dX6_cellPlace_12 : decode cX6_cellPlace 12 = .ok (.imul, 1) := by decide +kernel
theorem dX6_cellPlace_13 : decode cX6_cellPlace 13 = .ok (.iload_n 1, 1) := by decide +kernel
theorem dX6_cellPlace_14 : decode cX6_cellPlace 14 = .ok (.iadd, 1) := by decide +kernel
theorem dX6_cellPlace_15 : decode cX6_cellPlace 15 = .ok (.imul, 1) := by decide +kernel
theorem dX6_cellPlace_16 : decode cX6_cellPlace 16 = .ok (.iadd, 1) := by decide +kernel
theorem dX6_cellPlace_17 : decode cX6_cellPlace 17 = .ok (.ireturn, 1) := by decide +kernel
theorem dX6_raised_0 : decode cX6_raised 0 = .ok (.aload_n 0, 1) := by decide +kernel
theorem dX6_raised_1 : decode cX6_raised 1 = .ok (.getfield 7, 3) := by decide +kernel
theorem dX6_raised_4 : decode cX6_raised 4 = .ok (.iload_n 1, 1) := by decide +kernel
theorem dX6_raised_5 : decode cX6_raised 5 = .ok (.iaload, 1) := by decide +kernel
theorem dX6_raised_6 : decode cX6_raised 6 = .ok (.iload_n 2, 1) := by decide +kernel
theorem dX6_raised_7 : decode cX6_raised 7 = .ok (.iadd, 1) := by decide +kernel
theorem dX6_raised_8 : decode cX6_raised 8 = .ok (.istore_n 3, 1) := by decide +kernel
theorem dX6_raised_9 : decode cX6_raised 9 = .ok (.aload_n 0, 1) := by decide +kernel
theorem dX6_raised_10 : decode cX6_raised 10 = .ok (.getfield 7, 3) := by decide +kernel
theorem dX6_raised_13 : decode cX6_raised 13 = .ok (.iload_n 1, 1) := by decide +kernel
theorem dX6_raised_14 : decode cX6_raised 14 = .ok (.iload_n 3, 1) := by decide +kernel
theorem dX6_raised_15 : decode cX6_raised 15 = .ok (.sipush 4095, 3) := by decide +kernel
theorem dX6_raised_18 : decode cX6_raised 18 = .ok (.if_icmp .le 9, 3) := by decide +kernel
theorem dX6_raised_21 : decode cX6_raised 21 = .ok (.sipush 4095, 3) := by decide +kernel
theorem dX6_raised_24 : decode cX6_raised 24 = .ok (.goto 4, 3) := by decide +kernel
theorem dX6_raised_27 : decode cX6_raised 27 = .ok (.iload_n 3, 1) := by decide +kernel
theorem dX6_raised_28 : decode cX6_raised 28 = .ok (.iastore, 1) := by decide +kernel
theorem dX6_raised_29 : decode cX6_raised 29 = .ok (.aload_n 0, 1) := by decide +kernel
theorem dX6_raised_30 : decode cX6_raised 30 = .ok (.getfield 7, 3) := by decide +kernel
theorem dX6_raised_33 : decode cX6_raised 33 = .ok (.iload_n 1, 1) := by decide +kernel
theorem dX6_raised_34 : decode cX6_raised 34 = .ok (.iaload, 1) := by decide +kernel
theorem dX6_raised_35 : decode cX6_raised 35 = .ok (.ireturn, 1) := by decide +kernel
theorem dX6_fullOnes_0 : decode cX6_fullOnes 0 = .ok (.iconst 0, 1) := by decide +kernel
theorem dX6_fullOnes_1 : decode cX6_fullOnes 1 = .ok (.istore_n 2, 1) := by decide +kernel
theorem dX6_fullOnes_2 : decode cX6_fullOnes 2 = .ok (.iconst 0, 1) := by decide +kernel
theorem dX6_fullOnes_3 : decode cX6_fullOnes 3 = .ok (.istore_n 3, 1) := by decide +kernel
theorem dX6_fullOnes_4 : decode cX6_fullOnes 4 = .ok (.iload_n 3, 1) := by decide +kernel
theorem dX6_fullOnes_5 : decode cX6_fullOnes 5 = .ok (.bipush 12, 2) := by decide +kernel
theorem dX6_fullOnes_7 : decode cX6_fullOnes 7 = .ok (.if_icmp .ge 31, 3) := by decide +kernel
theorem dX6_fullOnes_10 : decode cX6_fullOnes 10 = .ok (.iload_n 2, 1) := by decide +kernel
theorem dX6_fullOnes_11 : decode cX6_fullOnes 11 = .ok (.aload_n 0, 1) := by decide +kernel
theorem dX6_fullOnes_12 : decode cX6_fullOnes 12 = .ok (.getfield 7, 3) := by decide +kernel
theorem dX6_fullOnes_15 : decode cX6_fullOnes 15 = .ok (.iload_n 1, 1) := by decide +kernel
theorem dX6_fullOnes_16 : decode cX6_fullOnes 16 = .ok (.iload_n 3, 1) := by decide +kernel
theorem dX6_fullOnes_17 : decode cX6_fullOnes 17 = .ok (.iadd, 1) := by decide +kernel
theorem dX6_fullOnes_18 : decode cX6_fullOnes 18 = .ok (.iaload, 1) := by decide +kernel
theorem dX6_fullOnes_19 : decode cX6_fullOnes 19 = .ok (.sipush 4095, 3) := by decide +kernel
theorem dX6_fullOnes_22 : decode cX6_fullOnes 22 = .ok (.if_icmp .ne 7, 3) := by decide +kernel
theorem dX6_fullOnes_25 : decode cX6_fullOnes 25 = .ok (.iconst 1, 1) := by decide +kernel
theorem dX6_fullOnes_26 : decode cX6_fullOnes 26 = .ok (.goto 4, 3) := by decide +kernel
theorem dX6_fullOnes_29 : decode cX6_fullOnes 29 = .ok (.iconst 0, 1) := by decide +kernel
theorem dX6_fullOnes_30 : decode cX6_fullOnes 30 = .ok (.iadd, 1) := by decide +kernel
theorem dX6_fullOnes_31 : decode cX6_fullOnes 31 = .ok (.istore_n 2, 1) := by decide +kernel
theorem dX6_fullOnes_32 : decode cX6_fullOnes 32 = .ok (.iinc 3 1, 3) := by decide +kernel
theorem dX6_fullOnes_35 : decode cX6_fullOnes 35 = .ok (.goto (-31), 3) := by decide +kernel
theorem dX6_fullOnes_38 : decode cX6_fullOnes 38 = .ok (.iload_n 2, 1) := by decide +kernel
theorem dX6_fullOnes_39 : decode cX6_fullOnes 39 = .ok (.ireturn, 1) := by decide +kernel
theorem dX6_putGrid_0 : decode cX6_putGrid 0 = .ok (.iload_n 1, 1) := by decide +kernel
theorem dX6_putGrid_1 : decode cX6_putGrid 1 = .ok (.iconst 1, 1) := by decide +kernel
theorem dX6_putGrid_2 : decode cX6_putGrid 2 = .ok (.iconst 4, 1) := by decide +kernel
theorem dX6_putGrid_3 : decode cX6_putGrid 3 = .ok (.invokestatic 60, 3) := by decide +kernel
theorem dX6_putGrid_6 : decode cX6_putGrid 6 = .ok (.ifCond .eq 12, 3) := by decide +kernel
theorem dX6_putGrid_9 : decode cX6_putGrid 9 = .ok (.iload_n 2, 1) := by decide +kernel
theorem dX6_putGrid_10 : decode cX6_putGrid 10 = .ok (.iconst 1, 1) := by decide +kernel
theorem dX6_putGrid_11 : decode cX6_putGrid 11 = .ok (.iconst 4, 1) := by decide +kernel
theorem dX6_putGrid_12 : decode cX6_putGrid 12 = .ok (.invokestatic 60, 3) := by decide +kernel
theorem dX6_putGrid_15 : decode cX6_putGrid 15 = .ok (.ifCond .ne 7, 3) := by decide +kernel
theorem dX6_putGrid_18 : decode cX6_putGrid 18 = .ok (.sipush (-10002), 3) := by decide +kernel
theorem dX6_putGrid_21 : decode cX6_putGrid 21 = .ok (.ireturn, 1) := by decide +kernel
theorem dX6_putGrid_22 : decode cX6_putGrid 22 = .ok (.aload_n 0, 1) := by decide +kernel
theorem dX6_putGrid_23 : decode cX6_putGrid 23 = .ok (.getfield 7, 3) := by decide +kernel
theorem dX6_putGrid_26 : decode cX6_putGrid 26 = .ok (.iconst 0, 1) := by decide +kernel
theorem dX6_putGrid_27 : decode cX6_putGrid 27 = .ok (.iaload, 1) := by decide +kernel
theorem dX6_putGrid_28 : decode cX6_putGrid 28 = .ok (.aload_n 0, 1) := by decide +kernel
theorem dX6_putGrid_29 : decode cX6_putGrid 29 = .ok (.getfield 7, 3) := by decide +kernel
theorem dX6_putGrid_32 : decode cX6_putGrid 32 = .ok (.iconst 1, 1) := by decide +kernel
theorem dX6_putGrid_33 : decode cX6_putGrid 33 = .ok (.iaload, 1) := by decide +kernel
theorem dX6_putGrid_34 : decode cX6_putGrid 34 = .ok (.imul, 1) := by decide +kernel
theorem dX6_putGrid_35 : decode cX6_putGrid 35 = .ok (.istore_n 3, 1) := by decide +kernel
theorem dX6_putGrid_36 : decode cX6_putGrid 36 = .ok (.aload_n 0, 1) := by decide +kernel
theorem dX6_putGrid_37 : decode cX6_putGrid 37 = .ok (.getfield 7, 3) := by decide +kernel
theorem dX6_putGrid_40 : decode cX6_putGrid 40 = .ok (.iconst 0, 1) := by decide +kernel
theorem dX6_putGrid_41 : decode cX6_putGrid 41 = .ok (.iload_n 1, 1) := by decide +kernel
theorem dX6_putGrid_42 : decode cX6_putGrid 42 = .ok (.iastore, 1) := by decide +kernel
theorem dX6_putGrid_43 : decode cX6_putGrid 43 = .ok (.aload_n 0, 1) := by decide +kernel
theorem dX6_putGrid_44 : decode cX6_putGrid 44 = .ok (.getfield 7, 3) := by decide +kernel
theorem dX6_putGrid_47 : decode cX6_putGrid 47 = .ok (.iconst 1, 1) := by decide +kernel
theorem dX6_putGrid_48 : decode cX6_putGrid 48 = .ok (.iload_n 2, 1) := by decide +kernel
theorem dX6_putGrid_49 : decode cX6_putGrid 49 = .ok (.iastore, 1) := by decide +kernel
theorem dX6_putGrid_50 : decode cX6_putGrid 50 = .ok (.bipush 11, 2) := by decide +kernel
theorem dX6_putGrid_52 : decode cX6_putGrid 52 = .ok (.istore 4, 2) := by decide +kernel
theorem dX6_putGrid_54 : decode cX6_putGrid 54 = .ok (.iload 4, 2) := by decide +kernel
theorem dX6_putGrid_56 : decode cX6_putGrid 56 = .ok (.sipush 395, 3) := by decide +kernel
theorem dX6_putGrid_59 : decode cX6_putGrid 59 = .ok (.if_icmp .ge 17, 3) := by decide +kernel
theorem dX6_putGrid_62 : decode cX6_putGrid 62 = .ok (.aload_n 0, 1) := by decide +kernel
theorem dX6_putGrid_63 : decode cX6_putGrid 63 = .ok (.getfield 7, 3) := by decide +kernel
theorem dX6_putGrid_66 : decode cX6_putGrid 66 = .ok (.iload 4, 2) := by decide +kernel
theorem dX6_putGrid_68 : decode cX6_putGrid 68 = .ok (.iconst 0, 1) := by decide +kernel
theorem dX6_putGrid_69 : decode cX6_putGrid 69 = .ok (.iastore, 1) := by decide +kernel
theorem dX6_putGrid_70 : decode cX6_putGrid 70 = .ok (.iinc 4 1, 3) := by decide +kernel
theorem dX6_putGrid_73 : decode cX6_putGrid 73 = .ok (.goto (-19), 3) := by decide +kernel
theorem dX6_putGrid_76 : decode cX6_putGrid 76 = .ok (.iload_n 3, 1) := by decide +kernel
theorem dX6_putGrid_77 : decode cX6_putGrid 77 = .ok (.ireturn, 1) := by decide +kernel
theorem dX6_putWave_0 : decode cX6_putWave 0 = .ok (.iload_n 1, 1) := by decide +kernel
theorem dX6_putWave_1 : decode cX6_putWave 1 = .ok (.iconst 0, 1) := by decide +kernel
theorem dX6_putWave_2 : decode cX6_putWave 2 = .ok (.iconst 2, 1) := by decide +kernel
theorem dX6_putWave_3 : decode cX6_putWave 3 = .ok (.invokestatic 60, 3) := by decide +kernel
theorem dX6_putWave_6 : decode cX6_putWave 6 = .ok (.ifCond .eq 15, 3) := by decide +kernel
theorem dX6_putWave_9 : decode cX6_putWave 9 = .ok (.iload_n 2, 1) := by decide +kernel
theorem dX6_putWave_10 : decode cX6_putWave 10 = .ok (.bipush 10, 2) := by decide +kernel
theorem dX6_putWave_12 : decode cX6_putWave 12 = .ok (.sipush 2000, 3) := by decide +kernel
theorem dX6_putWave_15 : decode cX6_putWave 15 = .ok (.invokestatic 60, 3) := by decide +kernel
theorem dX6_putWave_18 : decode cX6_putWave 18 = .ok (.ifCond .ne 7, 3) := by decide +kernel
theorem dX6_putWave_21 : decode cX6_putWave 21 = .ok (.sipush (-10002), 3) := by decide +kernel
theorem dX6_putWave_24 : decode cX6_putWave 24 = .ok (.ireturn, 1) := by decide +kernel
theorem dX6_putWave_25 : decode cX6_putWave 25 = .ok (.aload_n 0, 1) := by decide +kernel
theorem dX6_putWave_26 : decode cX6_putWave 26 = .ok (.getfield 7, 3) := by decide +kernel
theorem dX6_putWave_29 : decode cX6_putWave 29 = .ok (.iconst 2, 1) := by decide +kernel
theorem dX6_putWave_30 : decode cX6_putWave 30 = .ok (.iload_n 1, 1) := by decide +kernel
theorem dX6_putWave_31 : decode cX6_putWave 31 = .ok (.iadd, 1) := by decide +kernel
theorem dX6_putWave_32 : decode cX6_putWave 32 = .ok (.iaload, 1) := by decide +kernel
theorem dX6_putWave_33 : decode cX6_putWave 33 = .ok (.istore_n 3, 1) := by decide +kernel
theorem dX6_putWave_34 : decode cX6_putWave 34 = .ok (.aload_n 0, 1) := by decide +kernel
theorem dX6_putWave_35 : decode cX6_putWave 35 = .ok (.getfield 7, 3) := by decide +kernel
theorem dX6_putWave_38 : decode cX6_putWave 38 = .ok (.iconst 2, 1) := by decide +kernel
theorem dX6_putWave_39 : decode cX6_putWave 39 = .ok (.iload_n 1, 1) := by decide +kernel
theorem dX6_putWave_40 : decode cX6_putWave 40 = .ok (.iadd, 1) := by decide +kernel
theorem dX6_putWave_41 : decode cX6_putWave 41 = .ok (.iload_n 2, 1) := by decide +kernel
theorem dX6_putWave_42 : decode cX6_putWave 42 = .ok (.iastore, 1) := by decide +kernel
theorem dX6_putWave_43 : decode cX6_putWave 43 = .ok (.iload_n 3, 1) := by decide +kernel
theorem dX6_putWave_44 : decode cX6_putWave 44 = .ok (.ireturn, 1) := by decide +kernel
theorem dX6_maySet_0 : decode cX6_maySet 0 = .ok (.iload_n 0, 1) := by decide +kernel
theorem dX6_maySet_1 : decode cX6_maySet 1 = .ok (.tableswitch 93 0 5 #[39, 47, 56, 65, 75, 84], 39) := by decide +kernel
theorem dX6_maySet_40 : decode cX6_maySet 40 = .ok (.iload_n 1, 1) := by decide +kernel
theorem dX6_maySet_41 : decode cX6_maySet 41 = .ok (.iconst 0, 1) := by decide +kernel
theorem dX6_maySet_42 : decode cX6_maySet 42 = .ok (.bipush 50, 2) := by decide +kernel
theorem dX6_maySet_44 : decode cX6_maySet 44 = .ok (.invokestatic 60, 3) := by decide +kernel
theorem dX6_maySet_47 : decode cX6_maySet 47 = .ok (.ireturn, 1) := by decide +kernel
theorem dX6_maySet_48 : decode cX6_maySet 48 = .ok (.iload_n 1, 1) := by decide +kernel
theorem dX6_maySet_49 : decode cX6_maySet 49 = .ok (.iconst 0, 1) := by decide +kernel
theorem dX6_maySet_50 : decode cX6_maySet 50 = .ok (.sipush 2000, 3) := by decide +kernel
theorem dX6_maySet_53 : decode cX6_maySet 53 = .ok (.invokestatic 60, 3) := by decide +kernel
theorem dX6_maySet_56 : decode cX6_maySet 56 = .ok (.ireturn, 1) := by decide +kernel
theorem dX6_maySet_57 : decode cX6_maySet 57 = .ok (.iload_n 1, 1) := by decide +kernel
theorem dX6_maySet_58 : decode cX6_maySet 58 = .ok (.iconst 1, 1) := by decide +kernel
theorem dX6_maySet_59 : decode cX6_maySet 59 = .ok (.sipush 4095, 3) := by decide +kernel
theorem dX6_maySet_62 : decode cX6_maySet 62 = .ok (.invokestatic 60, 3) := by decide +kernel
theorem dX6_maySet_65 : decode cX6_maySet 65 = .ok (.ireturn, 1) := by decide +kernel
theorem dX6_maySet_66 : decode cX6_maySet 66 = .ok (.iload_n 1, 1) := by decide +kernel
theorem dX6_maySet_67 : decode cX6_maySet 67 = .ok (.bipush 100, 2) := by decide +kernel
theorem dX6_maySet_69 : decode cX6_maySet 69 = .ok (.sipush 9999, 3) := by decide +kernel
theorem dX6_maySet_72 : decode cX6_maySet 72 = .ok (.invokestatic 60, 3) := by decide +kernel
theorem dX6_maySet_75 : decode cX6_maySet 75 = .ok (.ireturn, 1) := by decide +kernel
theorem dX6_maySet_76 : decode cX6_maySet 76 = .ok (.iload_n 1, 1) := by decide +kernel
theorem dX6_maySet_77 : decode cX6_maySet 77 = .ok (.iconst 1, 1) := by decide +kernel
theorem dX6_maySet_78 : decode cX6_maySet 78 = .ok (.sipush 500, 3) := by decide +kernel
theorem dX6_maySet_81 : decode cX6_maySet 81 = .ok (.invokestatic 60, 3) := by decide +kernel
theorem dX6_maySet_84 : decode cX6_maySet 84 = .ok (.ireturn, 1) := by decide +kernel
theorem dX6_maySet_85 : decode cX6_maySet 85 = .ok (.iload_n 1, 1) := by decide +kernel
theorem dX6_maySet_86 : decode cX6_maySet 86 = .ok (.iconst 0, 1) := by decide +kernel
theorem dX6_maySet_87 : decode cX6_maySet 87 = .ok (.sipush 500, 3) := by decide +kernel
theorem dX6_maySet_90 : decode cX6_maySet 90 = .ok (.invokestatic 60, 3) := by decide +kernel
theorem dX6_maySet_93 : decode cX6_maySet 93 = .ok (.ireturn, 1) := by decide +kernel
theorem dX6_maySet_94 : decode cX6_maySet 94 = .ok (.iconst 0, 1) := by decide +kernel
theorem dX6_maySet_95 : decode cX6_maySet 95 = .ok (.ireturn, 1) := by decide +kernel
theorem dX6_putSetting_0 : decode cX6_putSetting 0 = .ok (.iload_n 1, 1) := by decide +kernel
theorem dX6_putSetting_1 : decode cX6_putSetting 1 = .ok (.iload_n 2, 1) := by decide +kernel
theorem dX6_putSetting_2 : decode cX6_putSetting 2 = .ok (.invokestatic 64, 3) := by decide +kernel
theorem dX6_putSetting_5 : decode cX6_putSetting 5 = .ok (.ifCond .ne 7, 3) := by decide +kernel
theorem dX6_putSetting_8 : decode cX6_putSetting 8 = .ok (.sipush (-10002), 3) := by decide +kernel
theorem dX6_putSetting_11 : decode cX6_putSetting 11 = .ok (.ireturn, 1) := by decide +kernel
theorem dX6_putSetting_12 : decode cX6_putSetting 12 = .ok (.aload_n 0, 1) := by decide +kernel
theorem dX6_putSetting_13 : decode cX6_putSetting 13 = .ok (.getfield 7, 3) := by decide +kernel
theorem dX6_putSetting_16 : decode cX6_putSetting 16 = .ok (.iconst 5, 1) := by decide +kernel
theorem dX6_putSetting_17 : decode cX6_putSetting 17 = .ok (.iload_n 1, 1) := by decide +kernel
theorem dX6_putSetting_18 : decode cX6_putSetting 18 = .ok (.iadd, 1) := by decide +kernel
theorem dX6_putSetting_19 : decode cX6_putSetting 19 = .ok (.iaload, 1) := by decide +kernel
theorem dX6_putSetting_20 : decode cX6_putSetting 20 = .ok (.istore_n 3, 1) := by decide +kernel
theorem dX6_putSetting_21 : decode cX6_putSetting 21 = .ok (.aload_n 0, 1) := by decide +kernel
theorem dX6_putSetting_22 : decode cX6_putSetting 22 = .ok (.getfield 7, 3) := by decide +kernel
theorem dX6_putSetting_25 : decode cX6_putSetting 25 = .ok (.iconst 5, 1) := by decide +kernel
theorem dX6_putSetting_26 : decode cX6_putSetting 26 = .ok (.iload_n 1, 1) := by decide +kernel
theorem dX6_putSetting_27 : decode cX6_putSetting 27 = .ok (.iadd, 1) := by decide +kernel
theorem dX6_putSetting_28 : decode cX6_putSetting 28 = .ok (.iload_n 2, 1) := by decide +kernel
theorem dX6_putSetting_29 : decode cX6_putSetting 29 = .ok (.iastore, 1) := by decide +kernel
theorem dX6_putSetting_30 : decode cX6_putSetting 30 = .ok (.iload_n 3, 1) := by decide +kernel
theorem dX6_putSetting_31 : decode cX6_putSetting 31 = .ok (.ireturn, 1) := by decide +kernel
theorem dX6_putSample_0 : decode cX6_putSample 0 = .ok (.aload_n 0, 1) := by decide +kernel
theorem dX6_putSample_1 : decode cX6_putSample 1 = .ok (.getfield 7, 3) := by decide +kernel
theorem dX6_putSample_4 : decode cX6_putSample 4 = .ok (.iload_n 1, 1) := by decide +kernel
theorem dX6_putSample_5 : decode cX6_putSample 5 = .ok (.iaload, 1) := by decide +kernel
theorem dX6_putSample_6 : decode cX6_putSample 6 = .ok (.istore_n 3, 1) := by decide +kernel
theorem dX6_putSample_7 : decode cX6_putSample 7 = .ok (.aload_n 0, 1) := by decide +kernel
theorem dX6_putSample_8 : decode cX6_putSample 8 = .ok (.getfield 7, 3) := by decide +kernel
theorem dX6_putSample_11 : decode cX6_putSample 11 = .ok (.iload_n 1, 1) := by decide +kernel
theorem dX6_putSample_12 : decode cX6_putSample 12 = .ok (.iload_n 2, 1) := by decide +kernel
theorem dX6_putSample_13 : decode cX6_putSample 13 = .ok (.iastore, 1) := by decide +kernel
theorem dX6_putSample_14 : decode cX6_putSample 14 = .ok (.iload_n 3, 1) := by decide +kernel
theorem dX6_putSample_15 : decode cX6_putSample 15 = .ok (.ireturn, 1) := by decide +kernel
theorem dX6_echoParts_0 : decode cX6_echoParts 0 = .ok (.fload_n 1, 1) := by decide +kernel
theorem dX6_echoParts_1 : decode cX6_echoParts 1 = .ok (.fconst 1, 1) := by decide +kernel
theorem dX6_echoParts_2 : decode cX6_echoParts 2 = .ok (.fcmp .g, 1) := by decide +kernel
theorem dX6_echoParts_3 : decode cX6_echoParts 3 = .ok (.ifCond .ge 21, 3) := by decide +kernel
theorem dX6_echoParts_6 : decode cX6_echoParts 6 = .ok (.iload_n 0, 1) := by decide +kernel
theorem dX6_echoParts_7 : decode cX6_echoParts 7 = .ok (.i2f, 1) := by decide +kernel
theorem dX6_echoParts_8 : decode cX6_echoParts 8 = .ok (.fload_n 1, 1) := by decide +kernel
theorem dX6_echoParts_9 : decode cX6_echoParts 9 = .ok (.fmul, 1) := by decide +kernel
theorem dX6_echoParts_10 : decode cX6_echoParts 10 = .ok (.f2i, 1) := by decide +kernel
theorem dX6_echoParts_11 : decode cX6_echoParts 11 = .ok (.istore 4, 2) := by decide +kernel
theorem dX6_echoParts_13 : decode cX6_echoParts 13 = .ok (.iload_n 0, 1) := by decide +kernel
theorem dX6_echoParts_14 : decode cX6_echoParts 14 = .ok (.iload 4, 2) := by decide +kernel
theorem dX6_echoParts_16 : decode cX6_echoParts 16 = .ok (.isub, 1) := by decide +kernel
theorem dX6_echoParts_17 : decode cX6_echoParts 17 = .ok (.istore_n 2, 1) := by decide +kernel
theorem dX6_echoParts_18 : decode cX6_echoParts 18 = .ok (.iload 4, 2) := by decide +kernel
theorem dX6_echoParts_20 : decode cX6_echoParts 20 = .ok (.istore_n 3, 1) := by decide +kernel
theorem dX6_echoParts_21 : decode cX6_echoParts 21 = .ok (.goto 76, 3) := by decide +kernel
theorem dX6_echoParts_24 : decode cX6_echoParts 24 = .ok (.fload_n 1, 1) := by decide +kernel
theorem dX6_echoParts_25 : decode cX6_echoParts 25 = .ok (.fconst 2, 1) := by decide +kernel
theorem dX6_echoParts_26 : decode cX6_echoParts 26 = .ok (.fcmp .g, 1) := by decide +kernel
theorem dX6_echoParts_27 : decode cX6_echoParts 27 = .ok (.ifCond .ge 24, 3) := by decide +kernel
theorem dX6_echoParts_30 : decode cX6_echoParts 30 = .ok (.iload_n 0, 1) := by decide +kernel
theorem dX6_echoParts_31 : decode cX6_echoParts 31 = .ok (.i2f, 1) := by decide +kernel
theorem dX6_echoParts_32 : decode cX6_echoParts 32 = .ok (.fload_n 1, 1) := by decide +kernel
theorem dX6_echoParts_33 : decode cX6_echoParts 33 = .ok (.fconst 1, 1) := by decide +kernel
theorem dX6_echoParts_34 : decode cX6_echoParts 34 = .ok (.fsub, 1) := by decide +kernel
theorem dX6_echoParts_35 : decode cX6_echoParts 35 = .ok (.fmul, 1) := by decide +kernel
theorem dX6_echoParts_36 : decode cX6_echoParts 36 = .ok (.f2i, 1) := by decide +kernel
theorem dX6_echoParts_37 : decode cX6_echoParts 37 = .ok (.istore 4, 2) := by decide +kernel
theorem dX6_echoParts_39 : decode cX6_echoParts 39 = .ok (.iload 4, 2) := by decide +kernel
theorem dX6_echoParts_41 : decode cX6_echoParts 41 = .ok (.ineg, 1) := by decide +kernel
theorem dX6_echoParts_42 : decode cX6_echoParts 42 = .ok (.istore_n 2, 1) := by decide +kernel
theorem dX6_echoParts_43 : decode cX6_echoParts 43 = .ok (.iload_n 0, 1) := by decide +kernel
theorem dX6_echoParts_44 : decode cX6_echoParts 44 = .ok (.iload 4, 2) := by decide +kernel
theorem dX6_echoParts_46 : decode cX6_echoParts 46 = .ok (.isub, 1) := by decide +kernel
theorem dX6_echoParts_47 : decode cX6_echoParts 47 = .ok (.istore_n 3, 1) := by decide +kernel
theorem dX6_echoParts_48 : decode cX6_echoParts 48 = .ok (.goto 49, 3) := by decide +kernel
theorem dX6_echoParts_51 : decode cX6_echoParts 51 = .ok (.fload_n 1, 1) := by decide +kernel
theorem dX6_echoParts_52 : decode cX6_echoParts 52 = .ok (.ldc 68, 2) := by decide +kernel
theorem dX6_echoParts_54 : decode cX6_echoParts 54 = .ok (.fcmp .g, 1) := by decide +kernel
theorem dX6_echoParts_55 : decode cX6_echoParts 55 = .ok (.ifCond .ge 24, 3) := by decide +kernel
theorem dX6_echoParts_58 : decode cX6_echoParts 58 = .ok (.iload_n 0, 1) := by decide +kernel
theorem dX6_echoParts_59 : decode cX6_echoParts 59 = .ok (.i2f, 1) := by decide +kernel
theorem dX6_echoParts_60 : decode cX6_echoParts 60 = .ok (.fload_n 1, 1) := by decide +kernel
theorem dX6_echoParts_61 : decode cX6_echoParts 61 = .ok (.fconst 2, 1) := by decide +kernel
theorem dX6_echoParts_62 : decode cX6_echoParts 62 = .ok (.fsub, 1) := by decide +kernel
theorem dX6_echoParts_63 : decode cX6_echoParts 63 = .ok (.fmul, 1) := by decide +kernel
theorem dX6_echoParts_64 : decode cX6_echoParts 64 = .ok (.f2i, 1) := by decide +kernel
theorem dX6_echoParts_65 : decode cX6_echoParts 65 = .ok (.istore 4, 2) := by decide +kernel
theorem dX6_echoParts_67 : decode cX6_echoParts 67 = .ok (.iload 4, 2) := by decide +kernel
theorem dX6_echoParts_69 : decode cX6_echoParts 69 = .ok (.iload_n 0, 1) := by decide +kernel
theorem dX6_echoParts_70 : decode cX6_echoParts 70 = .ok (.isub, 1) := by decide +kernel
theorem dX6_echoParts_71 : decode cX6_echoParts 71 = .ok (.istore_n 2, 1) := by decide +kernel
theorem dX6_echoParts_72 : decode cX6_echoParts 72 = .ok (.iload 4, 2) := by decide +kernel
theorem dX6_echoParts_74 : decode cX6_echoParts 74 = .ok (.ineg, 1) := by decide +kernel
theorem dX6_echoParts_75 : decode cX6_echoParts 75 = .ok (.istore_n 3, 1) := by decide +kernel
theorem dX6_echoParts_76 : decode cX6_echoParts 76 = .ok (.goto 21, 3) := by decide +kernel
theorem dX6_echoParts_79 : decode cX6_echoParts 79 = .ok (.iload_n 0, 1) := by decide +kernel
theorem dX6_echoParts_80 : decode cX6_echoParts 80 = .ok (.i2f, 1) := by decide +kernel
theorem dX6_echoParts_81 : decode cX6_echoParts 81 = .ok (.fload_n 1, 1) := by decide +kernel
theorem dX6_echoParts_82 : decode cX6_echoParts 82 = .ok (.ldc 68, 2) := by decide +kernel
theorem dX6_echoParts_84 : decode cX6_echoParts 84 = .ok (.fsub, 1) := by decide +kernel
theorem dX6_echoParts_85 : decode cX6_echoParts 85 = .ok (.fmul, 1) := by decide +kernel
theorem dX6_echoParts_86 : decode cX6_echoParts 86 = .ok (.f2i, 1) := by decide +kernel
theorem dX6_echoParts_87 : decode cX6_echoParts 87 = .ok (.istore 4, 2) := by decide +kernel
theorem dX6_echoParts_89 : decode cX6_echoParts 89 = .ok (.iload 4, 2) := by decide +kernel
theorem dX6_echoParts_91 : decode cX6_echoParts 91 = .ok (.istore_n 2, 1) := by decide +kernel
theorem dX6_echoParts_92 : decode cX6_echoParts 92 = .ok (.iload 4, 2) := by decide +kernel
theorem dX6_echoParts_94 : decode cX6_echoParts 94 = .ok (.iload_n 0, 1) := by decide +kernel
theorem dX6_echoParts_95 : decode cX6_echoParts 95 = .ok (.isub, 1) := by decide +kernel
theorem dX6_echoParts_96 : decode cX6_echoParts 96 = .ok (.istore_n 3, 1) := by decide +kernel
theorem dX6_echoParts_97 : decode cX6_echoParts 97 = .ok (.sipush 4096, 3) := by decide +kernel
theorem dX6_echoParts_100 : decode cX6_echoParts 100 = .ok (.iload_n 2, 1) := by decide +kernel
theorem dX6_echoParts_101 : decode cX6_echoParts 101 = .ok (.sipush 1024, 3) := by decide +kernel
theorem dX6_echoParts_104 : decode cX6_echoParts 104 = .ok (.iadd, 1) := by decide +kernel
theorem dX6_echoParts_105 : decode cX6_echoParts 105 = .ok (.imul, 1) := by decide +kernel
theorem dX6_echoParts_106 : decode cX6_echoParts 106 = .ok (.iload_n 3, 1) := by decide +kernel
theorem dX6_echoParts_107 : decode cX6_echoParts 107 = .ok (.iadd, 1) := by decide +kernel
theorem dX6_echoParts_108 : decode cX6_echoParts 108 = .ok (.sipush 1024, 3) := by decide +kernel
theorem dX6_echoParts_111 : decode cX6_echoParts 111 = .ok (.iadd, 1) := by decide +kernel
theorem dX6_echoParts_112 : decode cX6_echoParts 112 = .ok (.ireturn, 1) := by decide +kernel
theorem dX6_putEcho_0 : decode cX6_putEcho 0 = .ok (.aload_n 0, 1) := by decide +kernel
theorem dX6_putEcho_1 : decode cX6_putEcho 1 = .ok (.iload_n 1, 1) := by decide +kernel
theorem dX6_putEcho_2 : decode cX6_putEcho 2 = .ok (.iload_n 2, 1) := by decide +kernel
theorem dX6_putEcho_3 : decode cX6_putEcho 3 = .ok (.iload_n 3, 1) := by decide +kernel
theorem dX6_putEcho_4 : decode cX6_putEcho 4 = .ok (.invokevirtual 69, 3) := by decide +kernel
theorem dX6_putEcho_7 : decode cX6_putEcho 7 = .ok (.ifCond .eq 27, 3) := by decide +kernel
theorem dX6_putEcho_10 : decode cX6_putEcho 10 = .ok (.iload 4, 2) := by decide +kernel
theorem dX6_putEcho_12 : decode cX6_putEcho 12 = .ok (.iconst 0, 1) := by decide +kernel
theorem dX6_putEcho_13 : decode cX6_putEcho 13 = .ok (.sipush 9999, 3) := by decide +kernel
theorem dX6_putEcho_16 : decode cX6_putEcho 16 = .ok (.invokestatic 60, 3) := by decide +kernel
theorem dX6_putEcho_19 : decode cX6_putEcho 19 = .ok (.ifCond .eq 15, 3) := by decide +kernel
theorem dX6_putEcho_22 : decode cX6_putEcho 22 = .ok (.iload 5, 2) := by decide +kernel
theorem dX6_putEcho_24 : decode cX6_putEcho 24 = .ok (.iconst 1, 1) := by decide +kernel
theorem dX6_putEcho_25 : decode cX6_putEcho 25 = .ok (.sipush 1000, 3) := by decide +kernel
theorem dX6_putEcho_28 : decode cX6_putEcho 28 = .ok (.invokestatic 60, 3) := by decide +kernel
theorem dX6_putEcho_31 : decode cX6_putEcho 31 = .ok (.ifCond .ne 7, 3) := by decide +kernel
theorem dX6_putEcho_34 : decode cX6_putEcho 34 = .ok (.sipush (-10002), 3) := by decide +kernel
theorem dX6_putEcho_37 : decode cX6_putEcho 37 = .ok (.ireturn, 1) := by decide +kernel
theorem dX6_putEcho_38 : decode cX6_putEcho 38 = .ok (.iload_n 1, 1) := by decide +kernel
theorem dX6_putEcho_39 : decode cX6_putEcho 39 = .ok (.iload_n 2, 1) := by decide +kernel
theorem dX6_putEcho_40 : decode cX6_putEcho 40 = .ok (.iload_n 3, 1) := by decide +kernel
theorem dX6_putEcho_41 : decode cX6_putEcho 41 = .ok (.invokestatic 72, 3) := by decide +kernel
theorem dX6_putEcho_44 : decode cX6_putEcho 44 = .ok (.istore 6, 2) := by decide +kernel
theorem dX6_putEcho_46 : decode cX6_putEcho 46 = .ok (.iconst 0, 1) := by decide +kernel
theorem dX6_putEcho_47 : decode cX6_putEcho 47 = .ok (.istore 7, 2) := by decide +kernel
theorem dX6_putEcho_49 : decode cX6_putEcho 49 = .ok (.iload 7, 2) := by decide +kernel
theorem dX6_putEcho_51 : decode cX6_putEcho 51 = .ok (.iconst 3, 1) := by decide +kernel
theorem dX6_putEcho_52 : decode cX6_putEcho 52 = .ok (.if_icmp .ge 152, 3) := by decide +kernel
theorem dX6_putEcho_55 : decode cX6_putEcho 55 = .ok (.aload_n 0, 1) := by decide +kernel
theorem dX6_putEcho_56 : decode cX6_putEcho 56 = .ok (.getfield 7, 3) := by decide +kernel
theorem dX6_putEcho_59 : decode cX6_putEcho 59 = .ok (.iconst 2, 1) := by decide +kernel
theorem dX6_putEcho_60 : decode cX6_putEcho 60 = .ok (.iload 7, 2) := by decide +kernel
theorem dX6_putEcho_62 : decode cX6_putEcho 62 = .ok (.iadd, 1) := by decide +kernel
theorem dX6_putEcho_63 : decode cX6_putEcho 63 = .ok (.iaload, 1) := by decide +kernel
theorem dX6_putEcho_64 : decode cX6_putEcho 64 = .ok (.istore 8, 2) := by decide +kernel
theorem dX6_putEcho_66 : decode cX6_putEcho 66 = .ok (.iload 4, 2) := by decide +kernel
theorem dX6_putEcho_68 : decode cX6_putEcho 68 = .ok (.iload 8, 2) := by decide +kernel
theorem dX6_putEcho_70 : decode cX6_putEcho 70 = .ok (.irem, 1) := by decide +kernel
theorem dX6_putEcho_71 : decode cX6_putEcho 71 = .ok (.istore 9, 2) := by decide +kernel
theorem dX6_putEcho_73 : decode cX6_putEcho 73 = .ok (.ldc 76, 2) := by decide +kernel
theorem dX6_putEcho_75 : decode cX6_putEcho 75 = .ok (.iload 9, 2) := by decide +kernel
theorem dX6_putEcho_77 : decode cX6_putEcho 77 = .ok (.i2f, 1) := by decide +kernel
theorem dX6_putEcho_78 : decode cX6_putEcho 78 = .ok (.fmul, 1) := by decide +kernel
theorem dX6_putEcho_79 : decode cX6_putEcho 79 = .ok (.iload 8, 2) := by decide +kernel
theorem dX6_putEcho_81 : decode cX6_putEcho 81 = .ok (.i2f, 1) := by decide +kernel
theorem dX6_putEcho_82 : decode cX6_putEcho 82 = .ok (.fdiv, 1) := by decide +kernel
theorem dX6_putEcho_83 : decode cX6_putEcho 83 = .ok (.fstore 10, 2) := by decide +kernel
theorem dX6_putEcho_85 : decode cX6_putEcho 85 = .ok (.iload 5, 2) := by decide +kernel
theorem dX6_putEcho_87 : decode cX6_putEcho 87 = .ok (.fload 10, 2) := by decide +kernel
theorem dX6_putEcho_89 : decode cX6_putEcho 89 = .ok (.invokestatic 77, 3) := by decide +kernel
theorem dX6_putEcho_92 : decode cX6_putEcho 92 = .ok (.istore 11, 2) := by decide +kernel
theorem dX6_putEcho_94 : decode cX6_putEcho 94 = .ok (.iload 11, 2) := by decide +kernel
theorem dX6_putEcho_96 : decode cX6_putEcho 96 = .ok (.sipush 4096, 3) := by decide +kernel
theorem dX6_putEcho_99 : decode cX6_putEcho 99 = .ok (.idiv, 1) := by decide +kernel
theorem dX6_putEcho_100 : decode cX6_putEcho 100 = .ok (.sipush 1024, 3) := by decide +kernel
theorem dX6_putEcho_103 : decode cX6_putEcho 103 = .ok (.isub, 1) := by decide +kernel
theorem dX6_putEcho_104 : decode cX6_putEcho 104 = .ok (.istore 12, 2) := by decide +kernel
theorem dX6_putEcho_106 : decode cX6_putEcho 106 = .ok (.iload 11, 2) := by decide +kernel
theorem dX6_putEcho_108 : decode cX6_putEcho 108 = .ok (.sipush 4096, 3) := by decide +kernel
theorem dX6_putEcho_111 : decode cX6_putEcho 111 = .ok (.irem, 1) := by decide +kernel
theorem dX6_putEcho_112 : decode cX6_putEcho 112 = .ok (.sipush 1024, 3) := by decide +kernel
theorem dX6_putEcho_115 : decode cX6_putEcho 115 = .ok (.isub, 1) := by decide +kernel
theorem dX6_putEcho_116 : decode cX6_putEcho 116 = .ok (.istore 13, 2) := by decide +kernel
theorem dX6_putEcho_118 : decode cX6_putEcho 118 = .ok (.iload 12, 2) := by decide +kernel
theorem dX6_putEcho_120 : decode cX6_putEcho 120 = .ok (.ifCond .le 19, 3) := by decide +kernel
theorem dX6_putEcho_123 : decode cX6_putEcho 123 = .ok (.aload_n 0, 1) := by decide +kernel
theorem dX6_putEcho_124 : decode cX6_putEcho 124 = .ok (.iload 6, 2) := by decide +kernel
theorem dX6_putEcho_126 : decode cX6_putEcho 126 = .ok (.iconst 4, 1) := by decide +kernel
theorem dX6_putEcho_127 : decode cX6_putEcho 127 = .ok (.iload 7, 2) := by decide +kernel
theorem dX6_putEcho_129 : decode cX6_putEcho 129 = .ok (.imul, 1) := by decide +kernel
theorem dX6_putEcho_130 : decode cX6_putEcho 130 = .ok (.iadd, 1) := by decide +kernel
theorem dX6_putEcho_131 : decode cX6_putEcho 131 = .ok (.iload 12, 2) := by decide +kernel
theorem dX6_putEcho_133 : decode cX6_putEcho 133 = .ok (.invokevirtual 81, 3) := by decide +kernel
theorem dX6_putEcho_136 : decode cX6_putEcho 136 = .ok (.goto 19, 3) := by decide +kernel
theorem dX6_putEcho_139 : decode cX6_putEcho 139 = .ok (.aload_n 0, 1) := by decide +kernel
theorem dX6_putEcho_140 : decode cX6_putEcho 140 = .ok (.iload 6, 2) := by decide +kernel
theorem dX6_putEcho_142 : decode cX6_putEcho 142 = .ok (.iconst 4, 1) := by decide +kernel
theorem dX6_putEcho_143 : decode cX6_putEcho 143 = .ok (.iload 7, 2) := by decide +kernel
theorem dX6_putEcho_145 : decode cX6_putEcho 145 = .ok (.imul, 1) := by decide +kernel
theorem dX6_putEcho_146 : decode cX6_putEcho 146 = .ok (.iadd, 1) := by decide +kernel
theorem dX6_putEcho_147 : decode cX6_putEcho 147 = .ok (.iconst 2, 1) := by decide +kernel
theorem dX6_putEcho_148 : decode cX6_putEcho 148 = .ok (.iadd, 1) := by decide +kernel
theorem dX6_putEcho_149 : decode cX6_putEcho 149 = .ok (.iload 12, 2) := by decide +kernel
theorem dX6_putEcho_151 : decode cX6_putEcho 151 = .ok (.ineg, 1) := by decide +kernel
theorem dX6_putEcho_152 : decode cX6_putEcho 152 = .ok (.invokevirtual 81, 3) := by decide +kernel
theorem dX6_putEcho_155 : decode cX6_putEcho 155 = .ok (.istore 14, 2) := by decide +kernel
theorem dX6_putEcho_157 : decode cX6_putEcho 157 = .ok (.iload 13, 2) := by decide +kernel
theorem dX6_putEcho_159 : decode cX6_putEcho 159 = .ok (.ifCond .le 21, 3) := by decide +kernel
theorem dX6_putEcho_162 : decode cX6_putEcho 162 = .ok (.aload_n 0, 1) := by decide +kernel
theorem dX6_putEcho_163 : decode cX6_putEcho 163 = .ok (.iload 6, 2) := by decide +kernel
theorem dX6_putEcho_165 : decode cX6_putEcho 165 = .ok (.iconst 4, 1) := by decide +kernel
theorem dX6_putEcho_166 : decode cX6_putEcho 166 = .ok (.iload 7, 2) := by decide +kernel
theorem dX6_putEcho_168 : decode cX6_putEcho 168 = .ok (.imul, 1) := by decide +kernel
theorem dX6_putEcho_169 : decode cX6_putEcho 169 = .ok (.iadd, 1) := by decide +kernel
theorem dX6_putEcho_170 : decode cX6_putEcho 170 = .ok (.iconst 1, 1) := by decide +kernel
theorem dX6_putEcho_171 : decode cX6_putEcho 171 = .ok (.iadd, 1) := by decide +kernel
theorem dX6_putEcho_172 : decode cX6_putEcho 172 = .ok (.iload 13, 2) := by decide +kernel
theorem dX6_putEcho_174 : decode cX6_putEcho 174 = .ok (.invokevirtual 81, 3) := by decide +kernel
theorem dX6_putEcho_177 : decode cX6_putEcho 177 = .ok (.goto 19, 3) := by decide +kernel
theorem dX6_putEcho_180 : decode cX6_putEcho 180 = .ok (.aload_n 0, 1) := by decide +kernel
theorem dX6_putEcho_181 : decode cX6_putEcho 181 = .ok (.iload 6, 2) := by decide +kernel
theorem dX6_putEcho_183 : decode cX6_putEcho 183 = .ok (.iconst 4, 1) := by decide +kernel
theorem dX6_putEcho_184 : decode cX6_putEcho 184 = .ok (.iload 7, 2) := by decide +kernel
theorem dX6_putEcho_186 : decode cX6_putEcho 186 = .ok (.imul, 1) := by decide +kernel
theorem dX6_putEcho_187 : decode cX6_putEcho 187 = .ok (.iadd, 1) := by decide +kernel
theorem dX6_putEcho_188 : decode cX6_putEcho 188 = .ok (.iconst 3, 1) := by decide +kernel
theorem dX6_putEcho_189 : decode cX6_putEcho 189 = .ok (.iadd, 1) := by decide +kernel
theorem dX6_putEcho_190 : decode cX6_putEcho 190 = .ok (.iload 13, 2) := by decide +kernel
theorem dX6_putEcho_192 : decode cX6_putEcho 192 = .ok (.ineg, 1) := by decide +kernel
theorem dX6_putEcho_193 : decode cX6_putEcho 193 = .ok (.invokevirtual 81, 3) := by decide +kernel
theorem dX6_putEcho_196 : decode cX6_putEcho 196 = .ok (.istore 14, 2) := by decide +kernel
theorem dX6_putEcho_198 : decode cX6_putEcho 198 = .ok (.iinc 7 1, 3) := by decide +kernel
theorem dX6_putEcho_201 : decode cX6_putEcho 201 = .ok (.goto (-152), 3) := by decide +kernel
theorem dX6_putEcho_204 : decode cX6_putEcho 204 = .ok (.aload_n 0, 1) := by decide +kernel
theorem dX6_putEcho_205 : decode cX6_putEcho 205 = .ok (.iload 6, 2) := by decide +kernel
theorem dX6_putEcho_207 : decode cX6_putEcho 207 = .ok (.invokevirtual 85, 3) := by decide +kernel
theorem dX6_putEcho_210 : decode cX6_putEcho 210 = .ok (.ireturn, 1) := by decide +kernel
theorem dX6_putShine_0 : decode cX6_putShine 0 = .ok (.aload_n 0, 1) := by decide +kernel
theorem dX6_putShine_1 : decode cX6_putShine 1 = .ok (.iload_n 1, 1) := by decide +kernel
theorem dX6_putShine_2 : decode cX6_putShine 2 = .ok (.iload_n 2, 1) := by decide +kernel
theorem dX6_putShine_3 : decode cX6_putShine 3 = .ok (.iload_n 3, 1) := by decide +kernel
theorem dX6_putShine_4 : decode cX6_putShine 4 = .ok (.invokevirtual 69, 3) := by decide +kernel
theorem dX6_putShine_7 : decode cX6_putShine 7 = .ok (.ifCond .eq 15, 3) := by decide +kernel
theorem dX6_putShine_10 : decode cX6_putShine 10 = .ok (.iload 4, 2) := by decide +kernel
theorem dX6_putShine_12 : decode cX6_putShine 12 = .ok (.iconst 1, 1) := by decide +kernel
theorem dX6_putShine_13 : decode cX6_putShine 13 = .ok (.sipush 4095, 3) := by decide +kernel
theorem dX6_putShine_16 : decode cX6_putShine 16 = .ok (.invokestatic 60, 3) := by decide +kernel
theorem dX6_putShine_19 : decode cX6_putShine 19 = .ok (.ifCond .ne 7, 3) := by decide +kernel
theorem dX6_putShine_22 : decode cX6_putShine 22 = .ok (.sipush (-10002), 3) := by decide +kernel
theorem dX6_putShine_25 : decode cX6_putShine 25 = .ok (.ireturn, 1) := by decide +kernel
theorem dX6_putShine_26 : decode cX6_putShine 26 = .ok (.iload_n 1, 1) := by decide +kernel
theorem dX6_putShine_27 : decode cX6_putShine 27 = .ok (.iload_n 2, 1) := by decide +kernel
theorem dX6_putShine_28 : decode cX6_putShine 28 = .ok (.iload_n 3, 1) := by decide +kernel
theorem dX6_putShine_29 : decode cX6_putShine 29 = .ok (.invokestatic 72, 3) := by decide +kernel
theorem dX6_putShine_32 : decode cX6_putShine 32 = .ok (.istore 5, 2) := by decide +kernel
theorem dX6_putShine_34 : decode cX6_putShine 34 = .ok (.iconst 0, 1) := by decide +kernel
theorem dX6_putShine_35 : decode cX6_putShine 35 = .ok (.istore 6, 2) := by decide +kernel
theorem dX6_putShine_37 : decode cX6_putShine 37 = .ok (.iconst 0, 1) := by decide +kernel
theorem dX6_putShine_38 : decode cX6_putShine 38 = .ok (.istore 7, 2) := by decide +kernel
theorem dX6_putShine_40 : decode cX6_putShine 40 = .ok (.iload 7, 2) := by decide +kernel
theorem dX6_putShine_42 : decode cX6_putShine 42 = .ok (.bipush 12, 2) := by decide +kernel
theorem dX6_putShine_44 : decode cX6_putShine 44 = .ok (.if_icmp .ge 36, 3) := by decide +kernel
theorem dX6_putShine_47 : decode cX6_putShine 47 = .ok (.iload 6, 2) := by decide +kernel
theorem dX6_putShine_49 : decode cX6_putShine 49 = .ok (.aload_n 0, 1) := by decide +kernel
theorem dX6_putShine_50 : decode cX6_putShine 50 = .ok (.iload 5, 2) := by decide +kernel
theorem dX6_putShine_52 : decode cX6_putShine 52 = .ok (.iload 7, 2) := by decide +kernel
theorem dX6_putShine_54 : decode cX6_putShine 54 = .ok (.iadd, 1) := by decide +kernel
theorem dX6_putShine_55 : decode cX6_putShine 55 = .ok (.iload 4, 2) := by decide +kernel
theorem dX6_putShine_57 : decode cX6_putShine 57 = .ok (.invokevirtual 81, 3) := by decide +kernel
theorem dX6_putShine_60 : decode cX6_putShine 60 = .ok (.sipush 4095, 3) := by decide +kernel
theorem dX6_putShine_63 : decode cX6_putShine 63 = .ok (.if_icmp .ne 7, 3) := by decide +kernel
theorem dX6_putShine_66 : decode cX6_putShine 66 = .ok (.iconst 1, 1) := by decide +kernel
theorem dX6_putShine_67 : decode cX6_putShine 67 = .ok (.goto 4, 3) := by decide +kernel
theorem dX6_putShine_70 : decode cX6_putShine 70 = .ok (.iconst 0, 1) := by decide +kernel
theorem dX6_putShine_71 : decode cX6_putShine 71 = .ok (.iadd, 1) := by decide +kernel
theorem dX6_putShine_72 : decode cX6_putShine 72 = .ok (.istore 6, 2) := by decide +kernel
theorem dX6_putShine_74 : decode cX6_putShine 74 = .ok (.iinc 7 1, 3) := by decide +kernel
theorem dX6_putShine_77 : decode cX6_putShine 77 = .ok (.goto (-37), 3) := by decide +kernel
theorem dX6_putShine_80 : decode cX6_putShine 80 = .ok (.iload 6, 2) := by decide +kernel
theorem dX6_putShine_82 : decode cX6_putShine 82 = .ok (.ireturn, 1) := by decide +kernel
theorem dX6_putClear_0 : decode cX6_putClear 0 = .ok (.aload_n 0, 1) := by decide +kernel
theorem dX6_putClear_1 : decode cX6_putClear 1 = .ok (.iload_n 1, 1) := by decide +kernel
theorem dX6_putClear_2 : decode cX6_putClear 2 = .ok (.iload_n 2, 1) := by decide +kernel
theorem dX6_putClear_3 : decode cX6_putClear 3 = .ok (.iload_n 3, 1) := by decide +kernel
theorem dX6_putClear_4 : decode cX6_putClear 4 = .ok (.invokevirtual 69, 3) := by decide +kernel
theorem dX6_putClear_7 : decode cX6_putClear 7 = .ok (.ifCond .ne 7, 3) := by decide +kernel
theorem dX6_putClear_10 : decode cX6_putClear 10 = .ok (.sipush (-10002), 3) := by decide +kernel
theorem dX6_putClear_13 : decode cX6_putClear 13 = .ok (.ireturn, 1) := by decide +kernel
theorem dX6_putClear_14 : decode cX6_putClear 14 = .ok (.iload_n 1, 1) := by decide +kernel
theorem dX6_putClear_15 : decode cX6_putClear 15 = .ok (.iload_n 2, 1) := by decide +kernel
theorem dX6_putClear_16 : decode cX6_putClear 16 = .ok (.iload_n 3, 1) := by decide +kernel
theorem dX6_putClear_17 : decode cX6_putClear 17 = .ok (.invokestatic 72, 3) := by decide +kernel
theorem dX6_putClear_20 : decode cX6_putClear 20 = .ok (.istore 4, 2) := by decide +kernel
theorem dX6_putClear_22 : decode cX6_putClear 22 = .ok (.iconst 0, 1) := by decide +kernel
theorem dX6_putClear_23 : decode cX6_putClear 23 = .ok (.istore 5, 2) := by decide +kernel
theorem dX6_putClear_25 : decode cX6_putClear 25 = .ok (.iconst 0, 1) := by decide +kernel
theorem dX6_putClear_26 : decode cX6_putClear 26 = .ok (.istore 6, 2) := by decide +kernel
theorem dX6_putClear_28 : decode cX6_putClear 28 = .ok (.iload 6, 2) := by decide +kernel
theorem dX6_putClear_30 : decode cX6_putClear 30 = .ok (.bipush 12, 2) := by decide +kernel
theorem dX6_putClear_32 : decode cX6_putClear 32 = .ok (.if_icmp .ge 43, 3) := by decide +kernel
theorem dX6_putClear_35 : decode cX6_putClear 35 = .ok (.iload 5, 2) := by decide +kernel
theorem dX6_putClear_37 : decode cX6_putClear 37 = .ok (.aload_n 0, 1) := by decide +kernel
theorem dX6_putClear_38 : decode cX6_putClear 38 = .ok (.getfield 7, 3) := by decide +kernel
theorem dX6_putClear_41 : decode cX6_putClear 41 = .ok (.iload 4, 2) := by decide +kernel
theorem dX6_putClear_43 : decode cX6_putClear 43 = .ok (.iload 6, 2) := by decide +kernel
theorem dX6_putClear_45 : decode cX6_putClear 45 = .ok (.iadd, 1) := by decide +kernel
theorem dX6_putClear_46 : decode cX6_putClear 46 = .ok (.iaload, 1) := by decide +kernel
theorem dX6_putClear_47 : decode cX6_putClear 47 = .ok (.ifCond .ne 7, 3) := by decide +kernel
theorem dX6_putClear_50 : decode cX6_putClear 50 = .ok (.iconst 0, 1) := by decide +kernel
theorem dX6_putClear_51 : decode cX6_putClear 51 = .ok (.goto 4, 3) := by decide +kernel
theorem dX6_putClear_54 : decode cX6_putClear 54 = .ok (.iconst 1, 1) := by decide +kernel
theorem dX6_putClear_55 : decode cX6_putClear 55 = .ok (.iadd, 1) := by decide +kernel
theorem dX6_putClear_56 : decode cX6_putClear 56 = .ok (.istore 5, 2) := by decide +kernel
theorem dX6_putClear_58 : decode cX6_putClear 58 = .ok (.aload_n 0, 1) := by decide +kernel
theorem dX6_putClear_59 : decode cX6_putClear 59 = .ok (.getfield 7, 3) := by decide +kernel
theorem dX6_putClear_62 : decode cX6_putClear 62 = .ok (.iload 4, 2) := by decide +kernel
theorem dX6_putClear_64 : decode cX6_putClear 64 = .ok (.iload 6, 2) := by decide +kernel
theorem dX6_putClear_66 : decode cX6_putClear 66 = .ok (.iadd, 1) := by decide +kernel
theorem dX6_putClear_67 : decode cX6_putClear 67 = .ok (.iconst 0, 1) := by decide +kernel
theorem dX6_putClear_68 : decode cX6_putClear 68 = .ok (.iastore, 1) := by decide +kernel
theorem dX6_putClear_69 : decode cX6_putClear 69 = .ok (.iinc 6 1, 3) := by decide +kernel
theorem dX6_putClear_72 : decode cX6_putClear 72 = .ok (.goto (-44), 3) := by decide +kernel
theorem dX6_putClear_75 : decode cX6_putClear 75 = .ok (.iload 5, 2) := by decide +kernel
theorem dX6_putClear_77 : decode cX6_putClear 77 = .ok (.ireturn, 1) := by decide +kernel
theorem dX6_grid_0 : decode cX6_grid 0 = .ok (.aload_n 0, 1) := by decide +kernel
theorem dX6_grid_1 : decode cX6_grid 1 = .ok (.invokevirtual 89, 3) := by decide +kernel
theorem dX6_grid_4 : decode cX6_grid 4 = .ok (.aload_n 0, 1) := by decide +kernel
theorem dX6_grid_5 : decode cX6_grid 5 = .ok (.aload_n 0, 1) := by decide +kernel
theorem dX6_grid_6 : decode cX6_grid 6 = .ok (.iload_n 1, 1) := by decide +kernel
theorem dX6_grid_7 : decode cX6_grid 7 = .ok (.iload_n 2, 1) := by decide +kernel
theorem dX6_grid_8 : decode cX6_grid 8 = .ok (.invokevirtual 92, 3) := by decide +kernel
theorem dX6_grid_11 : decode cX6_grid 11 = .ok (.invokevirtual 95, 3) := by decide +kernel
theorem dX6_grid_14 : decode cX6_grid 14 = .ok (.ireturn, 1) := by decide +kernel
theorem dX6_wave_0 : decode cX6_wave 0 = .ok (.aload_n 0, 1) := by decide +kernel
theorem dX6_wave_1 : decode cX6_wave 1 = .ok (.invokevirtual 89, 3) := by decide +kernel
theorem dX6_wave_4 : decode cX6_wave 4 = .ok (.aload_n 0, 1) := by decide +kernel
theorem dX6_wave_5 : decode cX6_wave 5 = .ok (.aload_n 0, 1) := by decide +kernel
theorem dX6_wave_6 : decode cX6_wave 6 = .ok (.iload_n 1, 1) := by decide +kernel
theorem dX6_wave_7 : decode cX6_wave 7 = .ok (.iload_n 2, 1) := by decide +kernel
theorem dX6_wave_8 : decode cX6_wave 8 = .ok (.invokevirtual 98, 3) := by decide +kernel
theorem dX6_wave_11 : decode cX6_wave 11 = .ok (.invokevirtual 95, 3) := by decide +kernel
theorem dX6_wave_14 : decode cX6_wave 14 = .ok (.ireturn, 1) := by decide +kernel
theorem dX6_sets_0 : decode cX6_sets 0 = .ok (.aload_n 0, 1) := by decide +kernel
theorem dX6_sets_1 : decode cX6_sets 1 = .ok (.invokevirtual 89, 3) := by decide +kernel
theorem dX6_sets_4 : decode cX6_sets 4 = .ok (.aload_n 0, 1) := by decide +kernel
theorem dX6_sets_5 : decode cX6_sets 5 = .ok (.aload_n 0, 1) := by decide +kernel
theorem dX6_sets_6 : decode cX6_sets 6 = .ok (.iload_n 1, 1) := by decide +kernel
theorem dX6_sets_7 : decode cX6_sets 7 = .ok (.iload_n 2, 1) := by decide +kernel
theorem dX6_sets_8 : decode cX6_sets 8 = .ok (.invokevirtual 101, 3) := by decide +kernel
theorem dX6_sets_11 : decode cX6_sets 11 = .ok (.invokevirtual 95, 3) := by decide +kernel
theorem dX6_sets_14 : decode cX6_sets 14 = .ok (.ireturn, 1) := by decide +kernel
theorem dX6_sample_0 : decode cX6_sample 0 = .ok (.aload_n 0, 1) := by decide +kernel
theorem dX6_sample_1 : decode cX6_sample 1 = .ok (.iload_n 1, 1) := by decide +kernel
theorem dX6_sample_2 : decode cX6_sample 2 = .ok (.iload_n 2, 1) := by decide +kernel
theorem dX6_sample_3 : decode cX6_sample 3 = .ok (.iload_n 3, 1) := by decide +kernel
theorem dX6_sample_4 : decode cX6_sample 4 = .ok (.invokevirtual 69, 3) := by decide +kernel
theorem dX6_sample_7 : decode cX6_sample 7 = .ok (.ifCond .eq 39, 3) := by decide +kernel
theorem dX6_sample_10 : decode cX6_sample 10 = .ok (.iload 4, 2) := by decide +kernel
theorem dX6_sample_12 : decode cX6_sample 12 = .ok (.iconst 0, 1) := by decide +kernel
theorem dX6_sample_13 : decode cX6_sample 13 = .ok (.iconst 2, 1) := by decide +kernel
theorem dX6_sample_14 : decode cX6_sample 14 = .ok (.invokestatic 60, 3) := by decide +kernel
theorem dX6_sample_17 : decode cX6_sample 17 = .ok (.ifCond .eq 29, 3) := by decide +kernel
theorem dX6_sample_20 : decode cX6_sample 20 = .ok (.iload 5, 2) := by decide +kernel
theorem dX6_sample_22 : decode cX6_sample 22 = .ok (.iconst 0, 1) := by decide +kernel
theorem dX6_sample_23 : decode cX6_sample 23 = .ok (.iconst 3, 1) := by decide +kernel
theorem dX6_sample_24 : decode cX6_sample 24 = .ok (.invokestatic 60, 3) := by decide +kernel
theorem dX6_sample_27 : decode cX6_sample 27 = .ok (.ifCond .eq 19, 3) := by decide +kernel
theorem dX6_sample_30 : decode cX6_sample 30 = .ok (.iload 6, 2) := by decide +kernel
theorem dX6_sample_32 : decode cX6_sample 32 = .ok (.iconst 0, 1) := by decide +kernel
theorem dX6_sample_33 : decode cX6_sample 33 = .ok (.sipush 4095, 3) := by decide +kernel
theorem dX6_sample_36 : decode cX6_sample 36 = .ok (.invokestatic 60, 3) := by decide +kernel
theorem dX6_sample_39 : decode cX6_sample 39 = .ok (.ifCond .eq 7, 3) := by decide +kernel
theorem dX6_sample_42 : decode cX6_sample 42 = .ok (.iconst 1, 1) := by decide +kernel
theorem dX6_sample_43 : decode cX6_sample 43 = .ok (.goto 4, 3) := by decide +kernel
theorem dX6_sample_46 : decode cX6_sample 46 = .ok (.iconst 0, 1) := by decide +kernel
theorem dX6_sample_47 : decode cX6_sample 47 = .ok (.istore 7, 2) := by decide +kernel
theorem dX6_sample_49 : decode cX6_sample 49 = .ok (.aload_n 0, 1) := by decide +kernel
theorem dX6_sample_50 : decode cX6_sample 50 = .ok (.invokevirtual 89, 3) := by decide +kernel
theorem dX6_sample_53 : decode cX6_sample 53 = .ok (.aload_n 0, 1) := by decide +kernel
theorem dX6_sample_54 : decode cX6_sample 54 = .ok (.iload 7, 2) := by decide +kernel
theorem dX6_sample_56 : decode cX6_sample 56 = .ok (.ifCond .eq 26, 3) := by decide +kernel
theorem dX6_sample_59 : decode cX6_sample 59 = .ok (.aload_n 0, 1) := by decide +kernel
theorem dX6_sample_60 : decode cX6_sample 60 = .ok (.iload_n 1, 1) := by decide +kernel
theorem dX6_sample_61 : decode cX6_sample 61 = .ok (.iload_n 2, 1) := by decide +kernel
theorem dX6_sample_62 : decode cX6_sample 62 = .ok (.iload_n 3, 1) := by decide +kernel
theorem dX6_sample_63 : decode cX6_sample 63 = .ok (.invokestatic 72, 3) := by decide +kernel
theorem dX6_sample_66 : decode cX6_sample 66 = .ok (.iconst 4, 1) := by decide +kernel
theorem dX6_sample_67 : decode cX6_sample 67 = .ok (.iload 4, 2) := by decide +kernel
theorem dX6_sample_69 : decode cX6_sample 69 = .ok (.imul, 1) := by decide +kernel
theorem dX6_sample_70 : decode cX6_sample 70 = .ok (.iadd, 1) := by decide +kernel
theorem dX6_sample_71 : decode cX6_sample 71 = .ok (.iload 5, 2) := by decide +kernel
theorem dX6_sample_73 : decode cX6_sample 73 = .ok (.iadd, 1) := by decide +kernel
theorem dX6_sample_74 : decode cX6_sample 74 = .ok (.iload 6, 2) := by decide +kernel
theorem dX6_sample_76 : decode cX6_sample 76 = .ok (.invokevirtual 104, 3) := by decide +kernel
theorem dX6_sample_79 : decode cX6_sample 79 = .ok (.goto 6, 3) := by decide +kernel
theorem dX6_sample_82 : decode cX6_sample 82 = .ok (.sipush (-10002), 3) := by decide +kernel
theorem dX6_sample_85 : decode cX6_sample 85 = .ok (.invokevirtual 95, 3) := by decide +kernel
theorem dX6_sample_88 : decode cX6_sample 88 = .ok (.ireturn, 1) := by decide +kernel
theorem dX6_echo_0 : decode cX6_echo 0 = .ok (.aload_n 0, 1) := by decide +kernel
theorem dX6_echo_1 : decode cX6_echo 1 = .ok (.invokevirtual 89, 3) := by decide +kernel
theorem dX6_echo_4 : decode cX6_echo 4 = .ok (.aload_n 0, 1) := by decide +kernel
theorem dX6_echo_5 : decode cX6_echo 5 = .ok (.aload_n 0, 1) := by decide +kernel
theorem dX6_echo_6 : decode cX6_echo 6 = .ok (.iload_n 1, 1) := by decide +kernel
theorem dX6_echo_7 : decode cX6_echo 7 = .ok (.iload_n 2, 1) := by decide +kernel
theorem dX6_echo_8 : decode cX6_echo 8 = .ok (.iload_n 3, 1) := by decide +kernel
theorem dX6_echo_9 : decode cX6_echo 9 = .ok (.iload 4, 2) := by decide +kernel
theorem dX6_echo_11 : decode cX6_echo 11 = .ok (.iload 5, 2) := by decide +kernel
theorem dX6_echo_13 : decode cX6_echo 13 = .ok (.invokevirtual 107, 3) := by decide +kernel
theorem dX6_echo_16 : decode cX6_echo 16 = .ok (.invokevirtual 95, 3) := by decide +kernel
theorem dX6_echo_19 : decode cX6_echo 19 = .ok (.ireturn, 1) := by decide +kernel
theorem dX6_shines_0 : decode cX6_shines 0 = .ok (.aload_n 0, 1) := by decide +kernel
theorem dX6_shines_1 : decode cX6_shines 1 = .ok (.invokevirtual 89, 3) := by decide +kernel
theorem dX6_shines_4 : decode cX6_shines 4 = .ok (.aload_n 0, 1) := by decide +kernel
theorem dX6_shines_5 : decode cX6_shines 5 = .ok (.aload_n 0, 1) := by decide +kernel
theorem dX6_shines_6 : decode cX6_shines 6 = .ok (.iload_n 1, 1) := by decide +kernel
theorem dX6_shines_7 : decode cX6_shines 7 = .ok (.iload_n 2, 1) := by decide +kernel
theorem dX6_shines_8 : decode cX6_shines 8 = .ok (.iload_n 3, 1) := by decide +kernel
theorem dX6_shines_9 : decode cX6_shines 9 = .ok (.iload 4, 2) := by decide +kernel
theorem dX6_shines_11 : decode cX6_shines 11 = .ok (.invokevirtual 111, 3) := by decide +kernel
theorem dX6_shines_14 : decode cX6_shines 14 = .ok (.invokevirtual 95, 3) := by decide +kernel
theorem dX6_shines_17 : decode cX6_shines 17 = .ok (.ireturn, 1) := by decide +kernel
theorem dX6_clears_0 : decode cX6_clears 0 = .ok (.aload_n 0, 1) := by decide +kernel
theorem dX6_clears_1 : decode cX6_clears 1 = .ok (.invokevirtual 89, 3) := by decide +kernel
theorem dX6_clears_4 : decode cX6_clears 4 = .ok (.aload_n 0, 1) := by decide +kernel
theorem dX6_clears_5 : decode cX6_clears 5 = .ok (.aload_n 0, 1) := by decide +kernel
theorem dX6_clears_6 : decode cX6_clears 6 = .ok (.iload_n 1, 1) := by decide +kernel
theorem dX6_clears_7 : decode cX6_clears 7 = .ok (.iload_n 2, 1) := by decide +kernel
theorem dX6_clears_8 : decode cX6_clears 8 = .ok (.iload_n 3, 1) := by decide +kernel
theorem dX6_clears_9 : decode cX6_clears 9 = .ok (.invokevirtual 115, 3) := by decide +kernel
theorem dX6_clears_12 : decode cX6_clears 12 = .ok (.invokevirtual 95, 3) := by decide +kernel
theorem dX6_clears_15 : decode cX6_clears 15 = .ok (.ireturn, 1) := by decide +kernel
theorem dX6_acrossOf_0 : decode cX6_acrossOf 0 = .ok (.aload_n 0, 1) := by decide +kernel
theorem dX6_acrossOf_1 : decode cX6_acrossOf 1 = .ok (.getfield 7, 3) := by decide +kernel
theorem dX6_acrossOf_4 : decode cX6_acrossOf 4 = .ok (.iload_n 1, 1) := by decide +kernel
theorem dX6_acrossOf_5 : decode cX6_acrossOf 5 = .ok (.iaload, 1) := by decide +kernel
theorem dX6_acrossOf_6 : decode cX6_acrossOf 6 = .ok (.aload_n 0, 1) := by decide +kernel
theorem dX6_acrossOf_7 : decode cX6_acrossOf 7 = .ok (.getfield 7, 3) := by decide +kernel
theorem dX6_acrossOf_10 : decode cX6_acrossOf 10 = .ok (.iload_n 1, 1) := by decide +kernel
theorem dX6_acrossOf_11 : decode cX6_acrossOf 11 = .ok (.iconst 2, 1) := by decide +kernel
theorem dX6_acrossOf_12 : decode cX6_acrossOf 12 = .ok (.iadd, 1) := by decide +kernel
theorem dX6_acrossOf_13 : decode cX6_acrossOf 13 = .ok (.iaload, 1) := by decide +kernel
theorem dX6_acrossOf_14 : decode cX6_acrossOf 14 = .ok (.isub, 1) := by decide +kernel
theorem dX6_acrossOf_15 : decode cX6_acrossOf 15 = .ok (.ireturn, 1) := by decide +kernel
theorem dX6_downOf_0 : decode cX6_downOf 0 = .ok (.aload_n 0, 1) := by decide +kernel
theorem dX6_downOf_1 : decode cX6_downOf 1 = .ok (.getfield 7, 3) := by decide +kernel
theorem dX6_downOf_4 : decode cX6_downOf 4 = .ok (.iload_n 1, 1) := by decide +kernel
theorem dX6_downOf_5 : decode cX6_downOf 5 = .ok (.iconst 1, 1) := by decide +kernel
theorem dX6_downOf_6 : decode cX6_downOf 6 = .ok (.iadd, 1) := by decide +kernel
theorem dX6_downOf_7 : decode cX6_downOf 7 = .ok (.iaload, 1) := by decide +kernel
theorem dX6_downOf_8 : decode cX6_downOf 8 = .ok (.aload_n 0, 1) := by decide +kernel
theorem dX6_downOf_9 : decode cX6_downOf 9 = .ok (.getfield 7, 3) := by decide +kernel
theorem dX6_downOf_12 : decode cX6_downOf 12 = .ok (.iload_n 1, 1) := by decide +kernel
theorem dX6_downOf_13 : decode cX6_downOf 13 = .ok (.iconst 3, 1) := by decide +kernel
theorem dX6_downOf_14 : decode cX6_downOf 14 = .ok (.iadd, 1) := by decide +kernel
theorem dX6_downOf_15 : decode cX6_downOf 15 = .ok (.iaload, 1) := by decide +kernel
theorem dX6_downOf_16 : decode cX6_downOf 16 = .ok (.isub, 1) := by decide +kernel
theorem dX6_downOf_17 : decode cX6_downOf 17 = .ok (.ireturn, 1) := by decide +kernel
theorem dX6_size_0 : decode cX6_size 0 = .ok (.iload_n 0, 1) := by decide +kernel
theorem dX6_size_1 : decode cX6_size 1 = .ok (.ifCond .ge 8, 3) := by decide +kernel
theorem dX6_size_4 : decode cX6_size 4 = .ok (.iload_n 0, 1) := by decide +kernel
theorem dX6_size_5 : decode cX6_size 5 = .ok (.ineg, 1) := by decide +kernel
theorem dX6_size_6 : decode cX6_size 6 = .ok (.goto 4, 3) := by decide +kernel
theorem dX6_size_9 : decode cX6_size 9 = .ok (.iload_n 0, 1) := by decide +kernel
theorem dX6_size_10 : decode cX6_size 10 = .ok (.ireturn, 1) := by decide +kernel
theorem dX6_sumOf_0 : decode cX6_sumOf 0 = .ok (.aload_n 0, 1) := by decide +kernel
theorem dX6_sumOf_1 : decode cX6_sumOf 1 = .ok (.iload_n 1, 1) := by decide +kernel
theorem dX6_sumOf_2 : decode cX6_sumOf 2 = .ok (.invokevirtual 118, 3) := by decide +kernel
theorem dX6_sumOf_5 : decode cX6_sumOf 5 = .ok (.invokestatic 121, 3) := by decide +kernel
theorem dX6_sumOf_8 : decode cX6_sumOf 8 = .ok (.aload_n 0, 1) := by decide +kernel
theorem dX6_sumOf_9 : decode cX6_sumOf 9 = .ok (.iload_n 1, 1) := by decide +kernel
theorem dX6_sumOf_10 : decode cX6_sumOf 10 = .ok (.invokevirtual 124, 3) := by decide +kernel
theorem dX6_sumOf_13 : decode cX6_sumOf 13 = .ok (.invokestatic 121, 3) := by decide +kernel
theorem dX6_sumOf_16 : decode cX6_sumOf 16 = .ok (.iadd, 1) := by decide +kernel
theorem dX6_sumOf_17 : decode cX6_sumOf 17 = .ok (.ireturn, 1) := by decide +kernel
theorem dX6_strengthOf_0 : decode cX6_strengthOf 0 = .ok (.aload_n 0, 1) := by decide +kernel
theorem dX6_strengthOf_1 : decode cX6_strengthOf 1 = .ok (.iload_n 1, 1) := by decide +kernel
theorem dX6_strengthOf_2 : decode cX6_strengthOf 2 = .ok (.invokevirtual 127, 3) := by decide +kernel
theorem dX6_strengthOf_5 : decode cX6_strengthOf 5 = .ok (.i2f, 1) := by decide +kernel
theorem dX6_strengthOf_6 : decode cX6_strengthOf 6 = .ok (.fconst 2, 1) := by decide +kernel
theorem dX6_strengthOf_7 : decode cX6_strengthOf 7 = .ok (.fdiv, 1) := by decide +kernel
theorem dX6_strengthOf_8 : decode cX6_strengthOf 8 = .ok (.freturn, 1) := by decide +kernel
theorem dX6_phaseOf_0 : decode cX6_phaseOf 0 = .ok (.aload_n 0, 1) := by decide +kernel
theorem dX6_phaseOf_1 : decode cX6_phaseOf 1 = .ok (.iload_n 1, 1) := by decide +kernel
theorem dX6_phaseOf_2 : decode cX6_phaseOf 2 = .ok (.invokevirtual 127, 3) := by decide +kernel
theorem dX6_phaseOf_5 : decode cX6_phaseOf 5 = .ok (.ifCond .ne 6, 3) := by decide +kernel
theorem dX6_phaseOf_8 : decode cX6_phaseOf 8 = .ok (.ldc 130, 2) := by decide +kernel
theorem dX6_phaseOf_10 : decode cX6_phaseOf 10 = .ok (.freturn, 1) := by decide +kernel
theorem dX6_phaseOf_11 : decode cX6_phaseOf 11 = .ok (.aload_n 0, 1) := by decide +kernel
theorem dX6_phaseOf_12 : decode cX6_phaseOf 12 = .ok (.iload_n 1, 1) := by decide +kernel
theorem dX6_phaseOf_13 : decode cX6_phaseOf 13 = .ok (.invokevirtual 124, 3) := by decide +kernel
theorem dX6_phaseOf_16 : decode cX6_phaseOf 16 = .ok (.i2f, 1) := by decide +kernel
theorem dX6_phaseOf_17 : decode cX6_phaseOf 17 = .ok (.aload_n 0, 1) := by decide +kernel
theorem dX6_phaseOf_18 : decode cX6_phaseOf 18 = .ok (.iload_n 1, 1) := by decide +kernel
theorem dX6_phaseOf_19 : decode cX6_phaseOf 19 = .ok (.invokevirtual 127, 3) := by decide +kernel
theorem dX6_phaseOf_22 : decode cX6_phaseOf 22 = .ok (.i2f, 1) := by decide +kernel
theorem dX6_phaseOf_23 : decode cX6_phaseOf 23 = .ok (.fdiv, 1) := by decide +kernel
theorem dX6_phaseOf_24 : decode cX6_phaseOf 24 = .ok (.fstore_n 2, 1) := by decide +kernel
theorem dX6_phaseOf_25 : decode cX6_phaseOf 25 = .ok (.aload_n 0, 1) := by decide +kernel
theorem dX6_phaseOf_26 : decode cX6_phaseOf 26 = .ok (.iload_n 1, 1) := by decide +kernel
theorem dX6_phaseOf_27 : decode cX6_phaseOf 27 = .ok (.invokevirtual 118, 3) := by decide +kernel
theorem dX6_phaseOf_30 : decode cX6_phaseOf 30 = .ok (.ifCond .ge 7, 3) := by decide +kernel
theorem dX6_phaseOf_33 : decode cX6_phaseOf 33 = .ok (.fconst 2, 1) := by decide +kernel
theorem dX6_phaseOf_34 : decode cX6_phaseOf 34 = .ok (.fload_n 2, 1) := by decide +kernel
theorem dX6_phaseOf_35 : decode cX6_phaseOf 35 = .ok (.fsub, 1) := by decide +kernel
theorem dX6_phaseOf_36 : decode cX6_phaseOf 36 = .ok (.freturn, 1) := by decide +kernel
theorem dX6_phaseOf_37 : decode cX6_phaseOf 37 = .ok (.aload_n 0, 1) := by decide +kernel
theorem dX6_phaseOf_38 : decode cX6_phaseOf 38 = .ok (.iload_n 1, 1) := by decide +kernel
theorem dX6_phaseOf_39 : decode cX6_phaseOf 39 = .ok (.invokevirtual 124, 3) := by decide +kernel
theorem dX6_phaseOf_42 : decode cX6_phaseOf 42 = .ok (.ifCond .lt 7, 3) := by decide +kernel
theorem dX6_phaseOf_45 : decode cX6_phaseOf 45 = .ok (.fload_n 2, 1) := by decide +kernel
theorem dX6_phaseOf_46 : decode cX6_phaseOf 46 = .ok (.goto 7, 3) := by decide +kernel
theorem dX6_phaseOf_49 : decode cX6_phaseOf 49 = .ok (.ldc 76, 2) := by decide +kernel
theorem dX6_phaseOf_51 : decode cX6_phaseOf 51 = .ok (.fload_n 2, 1) := by decide +kernel
theorem dX6_phaseOf_52 : decode cX6_phaseOf 52 = .ok (.fadd, 1) := by decide +kernel
theorem dX6_phaseOf_53 : decode cX6_phaseOf 53 = .ok (.freturn, 1) := by decide +kernel
theorem dX6_residueOf_0 : decode cX6_residueOf 0 = .ok (.aload_n 0, 1) := by decide +kernel
theorem dX6_residueOf_1 : decode cX6_residueOf 1 = .ok (.iload_n 1, 1) := by decide +kernel
theorem dX6_residueOf_2 : decode cX6_residueOf 2 = .ok (.invokevirtual 131, 3) := by decide +kernel
theorem dX6_residueOf_5 : decode cX6_residueOf 5 = .ok (.fstore_n 3, 1) := by decide +kernel
theorem dX6_residueOf_6 : decode cX6_residueOf 6 = .ok (.fload_n 3, 1) := by decide +kernel
theorem dX6_residueOf_7 : decode cX6_residueOf 7 = .ok (.iload_n 2, 1) := by decide +kernel
theorem dX6_residueOf_8 : decode cX6_residueOf 8 = .ok (.i2f, 1) := by decide +kernel
theorem dX6_residueOf_9 : decode cX6_residueOf 9 = .ok (.fmul, 1) := by decide +kernel
theorem dX6_residueOf_10 : decode cX6_residueOf 10 = .ok (.fstore 4, 2) := by decide +kernel
theorem dX6_residueOf_12 : decode cX6_residueOf 12 = .ok (.fload 4, 2) := by decide +kernel
theorem dX6_residueOf_14 : decode cX6_residueOf 14 = .ok (.ldc 76, 2) := by decide +kernel
theorem dX6_residueOf_16 : decode cX6_residueOf 16 = .ok (.fdiv, 1) := by decide +kernel
theorem dX6_residueOf_17 : decode cX6_residueOf 17 = .ok (.ldc 135, 2) := by decide +kernel
theorem dX6_residueOf_19 : decode cX6_residueOf 19 = .ok (.fadd, 1) := by decide +kernel
theorem dX6_residueOf_20 : decode cX6_residueOf 20 = .ok (.f2i, 1) := by decide +kernel
theorem dX6_residueOf_21 : decode cX6_residueOf 21 = .ok (.iload_n 2, 1) := by decide +kernel
theorem dX6_residueOf_22 : decode cX6_residueOf 22 = .ok (.irem, 1) := by decide +kernel
theorem dX6_residueOf_23 : decode cX6_residueOf 23 = .ok (.ireturn, 1) := by decide +kernel
theorem dX6_awayOf_0 : decode cX6_awayOf 0 = .ok (.iload_n 0, 1) := by decide +kernel
theorem dX6_awayOf_1 : decode cX6_awayOf 1 = .ok (.iload_n 1, 1) := by decide +kernel
theorem dX6_awayOf_2 : decode cX6_awayOf 2 = .ok (.isub, 1) := by decide +kernel
theorem dX6_awayOf_3 : decode cX6_awayOf 3 = .ok (.iload_n 2, 1) := by decide +kernel
theorem dX6_awayOf_4 : decode cX6_awayOf 4 = .ok (.irem, 1) := by decide +kernel
theorem dX6_awayOf_5 : decode cX6_awayOf 5 = .ok (.istore_n 3, 1) := by decide +kernel
theorem dX6_awayOf_6 : decode cX6_awayOf 6 = .ok (.iload_n 3, 1) := by decide +kernel
theorem dX6_awayOf_7 : decode cX6_awayOf 7 = .ok (.ifCond .ge 9, 3) := by decide +kernel
theorem dX6_awayOf_10 : decode cX6_awayOf 10 = .ok (.iload_n 3, 1) := by decide +kernel
theorem dX6_awayOf_11 : decode cX6_awayOf 11 = .ok (.iload_n 2, 1) := by decide +kernel
theorem dX6_awayOf_12 : decode cX6_awayOf 12 = .ok (.iadd, 1) := by decide +kernel
theorem dX6_awayOf_13 : decode cX6_awayOf 13 = .ok (.goto 4, 3) := by decide +kernel
theorem dX6_awayOf_16 : decode cX6_awayOf 16 = .ok (.iload_n 3, 1) := by decide +kernel
theorem dX6_awayOf_17 : decode cX6_awayOf 17 = .ok (.istore_n 3, 1) := by decide +kernel
theorem dX6_awayOf_18 : decode cX6_awayOf 18 = .ok (.iload_n 3, 1) := by decide +kernel
theorem dX6_awayOf_19 : decode cX6_awayOf 19 = .ok (.iload_n 2, 1) := by decide +kernel
theorem dX6_awayOf_20 : decode cX6_awayOf 20 = .ok (.iload_n 3, 1) := by decide +kernel
theorem dX6_awayOf_21 : decode cX6_awayOf 21 = .ok (.isub, 1) := by decide +kernel
theorem dX6_awayOf_22 : decode cX6_awayOf 22 = .ok (.if_icmp .ge 7, 3) := by decide +kernel
theorem dX6_awayOf_25 : decode cX6_awayOf 25 = .ok (.iload_n 3, 1) := by decide +kernel
theorem dX6_awayOf_26 : decode cX6_awayOf 26 = .ok (.goto 6, 3) := by decide +kernel
theorem dX6_awayOf_29 : decode cX6_awayOf 29 = .ok (.iload_n 2, 1) := by decide +kernel
theorem dX6_awayOf_30 : decode cX6_awayOf 30 = .ok (.iload_n 3, 1) := by decide +kernel
theorem dX6_awayOf_31 : decode cX6_awayOf 31 = .ok (.isub, 1) := by decide +kernel
theorem dX6_awayOf_32 : decode cX6_awayOf 32 = .ok (.ireturn, 1) := by decide +kernel
theorem dX6_isRate_0 : decode cX6_isRate 0 = .ok (.aload_n 0, 1) := by decide +kernel
theorem dX6_isRate_1 : decode cX6_isRate 1 = .ok (.iload_n 1, 1) := by decide +kernel
theorem dX6_isRate_2 : decode cX6_isRate 2 = .ok (.iload_n 2, 1) := by decide +kernel
theorem dX6_isRate_3 : decode cX6_isRate 3 = .ok (.iload_n 3, 1) := by decide +kernel
theorem dX6_isRate_4 : decode cX6_isRate 4 = .ok (.invokevirtual 69, 3) := by decide +kernel
theorem dX6_isRate_7 : decode cX6_isRate 7 = .ok (.ifCond .eq 17, 3) := by decide +kernel
theorem dX6_isRate_10 : decode cX6_isRate 10 = .ok (.iload 4, 2) := by decide +kernel
theorem dX6_isRate_12 : decode cX6_isRate 12 = .ok (.iconst 0, 1) := by decide +kernel
theorem dX6_isRate_13 : decode cX6_isRate 13 = .ok (.iconst 2, 1) := by decide +kernel
theorem dX6_isRate_14 : decode cX6_isRate 14 = .ok (.invokestatic 60, 3) := by decide +kernel
theorem dX6_isRate_17 : decode cX6_isRate 17 = .ok (.ifCond .eq 7, 3) := by decide +kernel
theorem dX6_isRate_20 : decode cX6_isRate 20 = .ok (.iconst 1, 1) := by decide +kernel
theorem dX6_isRate_21 : decode cX6_isRate 21 = .ok (.goto 4, 3) := by decide +kernel
theorem dX6_isRate_24 : decode cX6_isRate 24 = .ok (.iconst 0, 1) := by decide +kernel
theorem dX6_isRate_25 : decode cX6_isRate 25 = .ok (.ireturn, 1) := by decide +kernel
theorem dX6_raw_0 : decode cX6_raw 0 = .ok (.aload_n 0, 1) := by decide +kernel
theorem dX6_raw_1 : decode cX6_raw 1 = .ok (.iload_n 1, 1) := by decide +kernel
theorem dX6_raw_2 : decode cX6_raw 2 = .ok (.iload_n 2, 1) := by decide +kernel
theorem dX6_raw_3 : decode cX6_raw 3 = .ok (.iload_n 3, 1) := by decide +kernel
theorem dX6_raw_4 : decode cX6_raw 4 = .ok (.iload 4, 2) := by decide +kernel
theorem dX6_raw_6 : decode cX6_raw 6 = .ok (.invokevirtual 136, 3) := by decide +kernel
theorem dX6_raw_9 : decode cX6_raw 9 = .ok (.ifCond .eq 35, 3) := by decide +kernel
theorem dX6_raw_12 : decode cX6_raw 12 = .ok (.iload 5, 2) := by decide +kernel
theorem dX6_raw_14 : decode cX6_raw 14 = .ok (.iconst 0, 1) := by decide +kernel
theorem dX6_raw_15 : decode cX6_raw 15 = .ok (.iconst 3, 1) := by decide +kernel
theorem dX6_raw_16 : decode cX6_raw 16 = .ok (.invokestatic 60, 3) := by decide +kernel
theorem dX6_raw_19 : decode cX6_raw 19 = .ok (.ifCond .eq 25, 3) := by decide +kernel
theorem dX6_raw_22 : decode cX6_raw 22 = .ok (.aload_n 0, 1) := by decide +kernel
theorem dX6_raw_23 : decode cX6_raw 23 = .ok (.getfield 7, 3) := by decide +kernel
theorem dX6_raw_26 : decode cX6_raw 26 = .ok (.iload_n 1, 1) := by decide +kernel
theorem dX6_raw_27 : decode cX6_raw 27 = .ok (.iload_n 2, 1) := by decide +kernel
theorem dX6_raw_28 : decode cX6_raw 28 = .ok (.iload_n 3, 1) := by decide +kernel
theorem dX6_raw_29 : decode cX6_raw 29 = .ok (.invokestatic 72, 3) := by decide +kernel
theorem dX6_raw_32 : decode cX6_raw 32 = .ok (.iconst 4, 1) := by decide +kernel
theorem dX6_raw_33 : decode cX6_raw 33 = .ok (.iload 4, 2) := by decide +kernel
theorem dX6_raw_35 : decode cX6_raw 35 = .ok (.imul, 1) := by decide +kernel
theorem dX6_raw_36 : decode cX6_raw 36 = .ok (.iadd, 1) := by decide +kernel
theorem dX6_raw_37 : decode cX6_raw 37 = .ok (.iload 5, 2) := by decide +kernel
theorem dX6_raw_39 : decode cX6_raw 39 = .ok (.iadd, 1) := by decide +kernel
theorem dX6_raw_40 : decode cX6_raw 40 = .ok (.iaload, 1) := by decide +kernel
theorem dX6_raw_41 : decode cX6_raw 41 = .ok (.goto 7, 3) := by decide +kernel
theorem dX6_raw_44 : decode cX6_raw 44 = .ok (.aload_n 0, 1) := by decide +kernel
theorem dX6_raw_45 : decode cX6_raw 45 = .ok (.invokevirtual 54, 3) := by decide +kernel
theorem dX6_raw_48 : decode cX6_raw 48 = .ok (.ireturn, 1) := by decide +kernel
theorem dX6_of_0 : decode cX6_of 0 = .ok (.aload_n 0, 1) := by decide +kernel
theorem dX6_of_1 : decode cX6_of 1 = .ok (.iload_n 1, 1) := by decide +kernel
theorem dX6_of_2 : decode cX6_of 2 = .ok (.iload_n 2, 1) := by decide +kernel
theorem dX6_of_3 : decode cX6_of 3 = .ok (.iload_n 3, 1) := by decide +kernel
theorem dX6_of_4 : decode cX6_of 4 = .ok (.iload 4, 2) := by decide +kernel
theorem dX6_of_6 : decode cX6_of 6 = .ok (.invokevirtual 136, 3) := by decide +kernel
theorem dX6_of_9 : decode cX6_of 9 = .ok (.ifCond .eq 13, 3) := by decide +kernel
theorem dX6_of_12 : decode cX6_of 12 = .ok (.iload 5, 2) := by decide +kernel
theorem dX6_of_14 : decode cX6_of 14 = .ok (.iconst 0, 1) := by decide +kernel
theorem dX6_of_15 : decode cX6_of 15 = .ok (.iconst 3, 1) := by decide +kernel
theorem dX6_of_16 : decode cX6_of 16 = .ok (.invokestatic 60, 3) := by decide +kernel
theorem dX6_of_19 : decode cX6_of 19 = .ok (.ifCond .ne 8, 3) := by decide +kernel
theorem dX6_of_22 : decode cX6_of 22 = .ok (.aload_n 0, 1) := by decide +kernel
theorem dX6_of_23 : decode cX6_of 23 = .ok (.invokevirtual 54, 3) := by decide +kernel
theorem dX6_of_26 : decode cX6_of 26 = .ok (.ireturn, 1) := by decide +kernel
theorem dX6_of_27 : decode cX6_of 27 = .ok (.iload_n 1, 1) := by decide +kernel
theorem dX6_of_28 : decode cX6_of 28 = .ok (.iload_n 2, 1) := by decide +kernel
theorem dX6_of_29 : decode cX6_of 29 = .ok (.iload_n 3, 1) := by decide +kernel
theorem dX6_of_30 : decode cX6_of 30 = .ok (.invokestatic 72, 3) := by decide +kernel
theorem dX6_of_33 : decode cX6_of 33 = .ok (.iconst 4, 1) := by decide +kernel
theorem dX6_of_34 : decode cX6_of 34 = .ok (.iload 4, 2) := by decide +kernel
theorem dX6_of_36 : decode cX6_of 36 = .ok (.imul, 1) := by decide +kernel
theorem dX6_of_37 : decode cX6_of 37 = .ok (.iadd, 1) := by decide +kernel
theorem dX6_of_38 : decode cX6_of 38 = .ok (.istore 6, 2) := by decide +kernel
theorem dX6_of_40 : decode cX6_of 40 = .ok (.iload 5, 2) := by decide +kernel
theorem dX6_of_42 : decode cX6_of 42 = .ok (.tableswitch 47 0 2 #[26, 33, 40], 26) := by decide +kernel
theorem dX6_of_68 : decode cX6_of 68 = .ok (.aload_n 0, 1) := by decide +kernel
theorem dX6_of_69 : decode cX6_of 69 = .ok (.iload 6, 2) := by decide +kernel
theorem dX6_of_71 : decode cX6_of 71 = .ok (.invokevirtual 118, 3) := by decide +kernel
theorem dX6_of_74 : decode cX6_of 74 = .ok (.ireturn, 1) := by decide +kernel
theorem dX6_of_75 : decode cX6_of 75 = .ok (.aload_n 0, 1) := by decide +kernel
theorem dX6_of_76 : decode cX6_of 76 = .ok (.iload 6, 2) := by decide +kernel
theorem dX6_of_78 : decode cX6_of 78 = .ok (.invokevirtual 124, 3) := by decide +kernel
theorem dX6_of_81 : decode cX6_of 81 = .ok (.ireturn, 1) := by decide +kernel
theorem dX6_of_82 : decode cX6_of 82 = .ok (.aload_n 0, 1) := by decide +kernel
theorem dX6_of_83 : decode cX6_of 83 = .ok (.iload 6, 2) := by decide +kernel
theorem dX6_of_85 : decode cX6_of 85 = .ok (.invokevirtual 127, 3) := by decide +kernel
theorem dX6_of_88 : decode cX6_of 88 = .ok (.ireturn, 1) := by decide +kernel
theorem dX6_of_89 : decode cX6_of 89 = .ok (.aload_n 0, 1) := by decide +kernel
theorem dX6_of_90 : decode cX6_of 90 = .ok (.iload 6, 2) := by decide +kernel
theorem dX6_of_92 : decode cX6_of 92 = .ok (.invokevirtual 127, 3) := by decide +kernel
theorem dX6_of_95 : decode cX6_of 95 = .ok (.ifCond .ne 9, 3) := by decide +kernel
theorem dX6_of_98 : decode cX6_of 98 = .ok (.sipush (-10001), 3) := by decide +kernel
theorem dX6_of_101 : decode cX6_of 101 = .ok (.goto 18, 3) := by decide +kernel
theorem dX6_of_104 : decode cX6_of 104 = .ok (.aload_n 0, 1) := by decide +kernel
theorem dX6_of_105 : decode cX6_of 105 = .ok (.iload 6, 2) := by decide +kernel
theorem dX6_of_107 : decode cX6_of 107 = .ok (.aload_n 0, 1) := by decide +kernel
theorem dX6_of_108 : decode cX6_of 108 = .ok (.getfield 7, 3) := by decide +kernel
theorem dX6_of_111 : decode cX6_of 111 = .ok (.iconst 2, 1) := by decide +kernel
theorem dX6_of_112 : decode cX6_of 112 = .ok (.iload 4, 2) := by decide +kernel
theorem dX6_of_114 : decode cX6_of 114 = .ok (.iadd, 1) := by decide +kernel
theorem dX6_of_115 : decode cX6_of 115 = .ok (.iaload, 1) := by decide +kernel
theorem dX6_of_116 : decode cX6_of 116 = .ok (.invokevirtual 140, 3) := by decide +kernel
theorem dX6_of_119 : decode cX6_of 119 = .ok (.ireturn, 1) := by decide +kernel
theorem dX6_bits_0 : decode cX6_bits 0 = .ok (.aload_n 0, 1) := by decide +kernel
theorem dX6_bits_1 : decode cX6_bits 1 = .ok (.iload_n 1, 1) := by decide +kernel
theorem dX6_bits_2 : decode cX6_bits 2 = .ok (.iload_n 2, 1) := by decide +kernel
theorem dX6_bits_3 : decode cX6_bits 3 = .ok (.iload_n 3, 1) := by decide +kernel
theorem dX6_bits_4 : decode cX6_bits 4 = .ok (.iload 4, 2) := by decide +kernel
theorem dX6_bits_6 : decode cX6_bits 6 = .ok (.invokevirtual 136, 3) := by decide +kernel
theorem dX6_bits_9 : decode cX6_bits 9 = .ok (.ifCond .eq 13, 3) := by decide +kernel
theorem dX6_bits_12 : decode cX6_bits 12 = .ok (.iload 5, 2) := by decide +kernel
theorem dX6_bits_14 : decode cX6_bits 14 = .ok (.iconst 0, 1) := by decide +kernel
theorem dX6_bits_15 : decode cX6_bits 15 = .ok (.iconst 1, 1) := by decide +kernel
theorem dX6_bits_16 : decode cX6_bits 16 = .ok (.invokestatic 60, 3) := by decide +kernel
theorem dX6_bits_19 : decode cX6_bits 19 = .ok (.ifCond .ne 8, 3) := by decide +kernel
theorem dX6_bits_22 : decode cX6_bits 22 = .ok (.aload_n 0, 1) := by decide +kernel
theorem dX6_bits_23 : decode cX6_bits 23 = .ok (.invokevirtual 54, 3) := by decide +kernel
theorem dX6_bits_26 : decode cX6_bits 26 = .ok (.ireturn, 1) := by decide +kernel
theorem dX6_bits_27 : decode cX6_bits 27 = .ok (.iload_n 1, 1) := by decide +kernel
theorem dX6_bits_28 : decode cX6_bits 28 = .ok (.iload_n 2, 1) := by decide +kernel
theorem dX6_bits_29 : decode cX6_bits 29 = .ok (.iload_n 3, 1) := by decide +kernel
theorem dX6_bits_30 : decode cX6_bits 30 = .ok (.invokestatic 72, 3) := by decide +kernel
theorem dX6_bits_33 : decode cX6_bits 33 = .ok (.iconst 4, 1) := by decide +kernel
theorem dX6_bits_34 : decode cX6_bits 34 = .ok (.iload 4, 2) := by decide +kernel
theorem dX6_bits_36 : decode cX6_bits 36 = .ok (.imul, 1) := by decide +kernel
theorem dX6_bits_37 : decode cX6_bits 37 = .ok (.iadd, 1) := by decide +kernel
theorem dX6_bits_38 : decode cX6_bits 38 = .ok (.istore 6, 2) := by decide +kernel
theorem dX6_bits_40 : decode cX6_bits 40 = .ok (.iload 5, 2) := by decide +kernel
theorem dX6_bits_42 : decode cX6_bits 42 = .ok (.ifCond .ne 12, 3) := by decide +kernel
theorem dX6_bits_45 : decode cX6_bits 45 = .ok (.aload_n 0, 1) := by decide +kernel
theorem dX6_bits_46 : decode cX6_bits 46 = .ok (.iload 6, 2) := by decide +kernel
theorem dX6_bits_48 : decode cX6_bits 48 = .ok (.invokevirtual 143, 3) := by decide +kernel
theorem dX6_bits_51 : decode cX6_bits 51 = .ok (.goto 9, 3) := by decide +kernel
theorem dX6_bits_54 : decode cX6_bits 54 = .ok (.aload_n 0, 1) := by decide +kernel
theorem dX6_bits_55 : decode cX6_bits 55 = .ok (.iload 6, 2) := by decide +kernel
theorem dX6_bits_57 : decode cX6_bits 57 = .ok (.invokevirtual 131, 3) := by decide +kernel
theorem dX6_bits_60 : decode cX6_bits 60 = .ok (.invokestatic 146, 3) := by decide +kernel
theorem dX6_bits_63 : decode cX6_bits 63 = .ok (.ireturn, 1) := by decide +kernel
theorem dX6_away_0 : decode cX6_away 0 = .ok (.aload_n 0, 1) := by decide +kernel
theorem dX6_away_1 : decode cX6_away 1 = .ok (.iload_n 1, 1) := by decide +kernel
theorem dX6_away_2 : decode cX6_away 2 = .ok (.iload_n 2, 1) := by decide +kernel
theorem dX6_away_3 : decode cX6_away 3 = .ok (.iload_n 3, 1) := by decide +kernel
theorem dX6_away_4 : decode cX6_away 4 = .ok (.iload 4, 2) := by decide +kernel
theorem dX6_away_6 : decode cX6_away 6 = .ok (.invokevirtual 136, 3) := by decide +kernel
theorem dX6_away_9 : decode cX6_away 9 = .ok (.ifCond .eq 15, 3) := by decide +kernel
theorem dX6_away_12 : decode cX6_away 12 = .ok (.iload 5, 2) := by decide +kernel
theorem dX6_away_14 : decode cX6_away 14 = .ok (.iconst 0, 1) := by decide +kernel
theorem dX6_away_15 : decode cX6_away 15 = .ok (.sipush 9999, 3) := by decide +kernel
theorem dX6_away_18 : decode cX6_away 18 = .ok (.invokestatic 60, 3) := by decide +kernel
theorem dX6_away_21 : decode cX6_away 21 = .ok (.ifCond .ne 8, 3) := by decide +kernel
theorem dX6_away_24 : decode cX6_away 24 = .ok (.aload_n 0, 1) := by decide +kernel
theorem dX6_away_25 : decode cX6_away 25 = .ok (.invokevirtual 54, 3) := by decide +kernel
theorem dX6_away_28 : decode cX6_away 28 = .ok (.ireturn, 1) := by decide +kernel
theorem dX6_away_29 : decode cX6_away 29 = .ok (.iload_n 1, 1) := by decide +kernel
theorem dX6_away_30 : decode cX6_away 30 = .ok (.iload_n 2, 1) := by decide +kernel
theorem dX6_away_31 : decode cX6_away 31 = .ok (.iload_n 3, 1) := by decide +kernel
theorem dX6_away_32 : decode cX6_away 32 = .ok (.invokestatic 72, 3) := by decide +kernel
theorem dX6_away_35 : decode cX6_away 35 = .ok (.iconst 4, 1) := by decide +kernel
theorem dX6_away_36 : decode cX6_away 36 = .ok (.iload 4, 2) := by decide +kernel
theorem dX6_away_38 : decode cX6_away 38 = .ok (.imul, 1) := by decide +kernel
theorem dX6_away_39 : decode cX6_away 39 = .ok (.iadd, 1) := by decide +kernel
theorem dX6_away_40 : decode cX6_away 40 = .ok (.istore 6, 2) := by decide +kernel
theorem dX6_away_42 : decode cX6_away 42 = .ok (.aload_n 0, 1) := by decide +kernel
theorem dX6_away_43 : decode cX6_away 43 = .ok (.getfield 7, 3) := by decide +kernel
theorem dX6_away_46 : decode cX6_away 46 = .ok (.iconst 2, 1) := by decide +kernel
theorem dX6_away_47 : decode cX6_away 47 = .ok (.iload 4, 2) := by decide +kernel
theorem dX6_away_49 : decode cX6_away 49 = .ok (.iadd, 1) := by decide +kernel
theorem dX6_away_50 : decode cX6_away 50 = .ok (.iaload, 1) := by decide +kernel
theorem dX6_away_51 : decode cX6_away 51 = .ok (.istore 7, 2) := by decide +kernel
theorem dX6_away_53 : decode cX6_away 53 = .ok (.aload_n 0, 1) := by decide +kernel
theorem dX6_away_54 : decode cX6_away 54 = .ok (.iload 6, 2) := by decide +kernel
theorem dX6_away_56 : decode cX6_away 56 = .ok (.invokevirtual 127, 3) := by decide +kernel
theorem dX6_away_59 : decode cX6_away 59 = .ok (.ifCond .ne 10, 3) := by decide +kernel
theorem dX6_away_62 : decode cX6_away 62 = .ok (.aload_n 0, 1) := by decide +kernel
theorem dX6_away_63 : decode cX6_away 63 = .ok (.invokevirtual 50, 3) := by decide +kernel
theorem dX6_away_66 : decode cX6_away 66 = .ok (.goto 18, 3) := by decide +kernel
theorem dX6_away_69 : decode cX6_away 69 = .ok (.iload 5, 2) := by decide +kernel
theorem dX6_away_71 : decode cX6_away 71 = .ok (.aload_n 0, 1) := by decide +kernel
theorem dX6_away_72 : decode cX6_away 72 = .ok (.iload 6, 2) := by decide +kernel
theorem dX6_away_74 : decode cX6_away 74 = .ok (.iload 7, 2) := by decide +kernel
theorem dX6_away_76 : decode cX6_away 76 = .ok (.invokevirtual 140, 3) := by decide +kernel
theorem dX6_away_79 : decode cX6_away 79 = .ok (.iload 7, 2) := by decide +kernel
theorem dX6_away_81 : decode cX6_away 81 = .ok (.invokestatic 152, 3) := by decide +kernel
theorem dX6_away_84 : decode cX6_away 84 = .ok (.ireturn, 1) := by decide +kernel
theorem dX6_isBright_0 : decode cX6_isBright 0 = .ok (.iconst 0, 1) := by decide +kernel
theorem dX6_isBright_1 : decode cX6_isBright 1 = .ok (.istore_n 2, 1) := by decide +kernel
theorem dX6_isBright_2 : decode cX6_isBright 2 = .ok (.iconst 0, 1) := by decide +kernel
theorem dX6_isBright_3 : decode cX6_isBright 3 = .ok (.istore_n 3, 1) := by decide +kernel
theorem dX6_isBright_4 : decode cX6_isBright 4 = .ok (.iload_n 3, 1) := by decide +kernel
theorem dX6_isBright_5 : decode cX6_isBright 5 = .ok (.bipush 12, 2) := by decide +kernel
theorem dX6_isBright_7 : decode cX6_isBright 7 = .ok (.if_icmp .ge 37, 3) := by decide +kernel
theorem dX6_isBright_10 : decode cX6_isBright 10 = .ok (.iload_n 2, 1) := by decide +kernel
theorem dX6_isBright_11 : decode cX6_isBright 11 = .ok (.ifCond .ne 21, 3) := by decide +kernel
theorem dX6_isBright_14 : decode cX6_isBright 14 = .ok (.aload_n 0, 1) := by decide +kernel
theorem dX6_isBright_15 : decode cX6_isBright 15 = .ok (.getfield 7, 3) := by decide +kernel
theorem dX6_isBright_18 : decode cX6_isBright 18 = .ok (.iload_n 1, 1) := by decide +kernel
theorem dX6_isBright_19 : decode cX6_isBright 19 = .ok (.iload_n 3, 1) := by decide +kernel
theorem dX6_isBright_20 : decode cX6_isBright 20 = .ok (.iadd, 1) := by decide +kernel
theorem dX6_isBright_21 : decode cX6_isBright 21 = .ok (.iaload, 1) := by decide +kernel
theorem dX6_isBright_22 : decode cX6_isBright 22 = .ok (.aload_n 0, 1) := by decide +kernel
theorem dX6_isBright_23 : decode cX6_isBright 23 = .ok (.getfield 7, 3) := by decide +kernel
theorem dX6_isBright_26 : decode cX6_isBright 26 = .ok (.bipush 7, 2) := by decide +kernel
theorem dX6_isBright_28 : decode cX6_isBright 28 = .ok (.iaload, 1) := by decide +kernel
theorem dX6_isBright_29 : decode cX6_isBright 29 = .ok (.if_icmp .lt 7, 3) := by decide +kernel
theorem dX6_isBright_32 : decode cX6_isBright 32 = .ok (.iconst 1, 1) := by decide +kernel
theorem dX6_isBright_33 : decode cX6_isBright 33 = .ok (.goto 4, 3) := by decide +kernel
theorem dX6_isBright_36 : decode cX6_isBright 36 = .ok (.iconst 0, 1) := by decide +kernel
theorem dX6_isBright_37 : decode cX6_isBright 37 = .ok (.istore_n 2, 1) := by decide +kernel
theorem dX6_isBright_38 : decode cX6_isBright 38 = .ok (.iinc 3 1, 3) := by decide +kernel
theorem dX6_isBright_41 : decode cX6_isBright 41 = .ok (.goto (-37), 3) := by decide +kernel
theorem dX6_isBright_44 : decode cX6_isBright 44 = .ok (.iload_n 2, 1) := by decide +kernel
theorem dX6_isBright_45 : decode cX6_isBright 45 = .ok (.ireturn, 1) := by decide +kernel
theorem dX6_isDark_0 : decode cX6_isDark 0 = .ok (.iconst 0, 1) := by decide +kernel
theorem dX6_isDark_1 : decode cX6_isDark 1 = .ok (.istore_n 2, 1) := by decide +kernel
theorem dX6_isDark_2 : decode cX6_isDark 2 = .ok (.iconst 0, 1) := by decide +kernel
theorem dX6_isDark_3 : decode cX6_isDark 3 = .ok (.istore_n 3, 1) := by decide +kernel
theorem dX6_isDark_4 : decode cX6_isDark 4 = .ok (.iload_n 3, 1) := by decide +kernel
theorem dX6_isDark_5 : decode cX6_isDark 5 = .ok (.iconst 3, 1) := by decide +kernel
theorem dX6_isDark_6 : decode cX6_isDark 6 = .ok (.if_icmp .ge 52, 3) := by decide +kernel
theorem dX6_isDark_9 : decode cX6_isDark 9 = .ok (.iload_n 2, 1) := by decide +kernel
theorem dX6_isDark_10 : decode cX6_isDark 10 = .ok (.ifCond .ne 36, 3) := by decide +kernel
theorem dX6_isDark_13 : decode cX6_isDark 13 = .ok (.aload_n 0, 1) := by decide +kernel
theorem dX6_isDark_14 : decode cX6_isDark 14 = .ok (.iload_n 1, 1) := by decide +kernel
theorem dX6_isDark_15 : decode cX6_isDark 15 = .ok (.iconst 4, 1) := by decide +kernel
theorem dX6_isDark_16 : decode cX6_isDark 16 = .ok (.iload_n 3, 1) := by decide +kernel
theorem dX6_isDark_17 : decode cX6_isDark 17 = .ok (.imul, 1) := by decide +kernel
theorem dX6_isDark_18 : decode cX6_isDark 18 = .ok (.iadd, 1) := by decide +kernel
theorem dX6_isDark_19 : decode cX6_isDark 19 = .ok (.invokevirtual 127, 3) := by decide +kernel
theorem dX6_isDark_22 : decode cX6_isDark 22 = .ok (.ifCond .eq 24, 3) := by decide +kernel
theorem dX6_isDark_25 : decode cX6_isDark 25 = .ok (.aload_n 0, 1) := by decide +kernel
theorem dX6_isDark_26 : decode cX6_isDark 26 = .ok (.iload_n 1, 1) := by decide +kernel
theorem dX6_isDark_27 : decode cX6_isDark 27 = .ok (.iconst 4, 1) := by decide +kernel
theorem dX6_isDark_28 : decode cX6_isDark 28 = .ok (.iload_n 3, 1) := by decide +kernel
theorem dX6_isDark_29 : decode cX6_isDark 29 = .ok (.imul, 1) := by decide +kernel
theorem dX6_isDark_30 : decode cX6_isDark 30 = .ok (.iadd, 1) := by decide +kernel
theorem dX6_isDark_31 : decode cX6_isDark 31 = .ok (.invokevirtual 143, 3) := by decide +kernel
theorem dX6_isDark_34 : decode cX6_isDark 34 = .ok (.aload_n 0, 1) := by decide +kernel
theorem dX6_isDark_35 : decode cX6_isDark 35 = .ok (.getfield 7, 3) := by decide +kernel
theorem dX6_isDark_38 : decode cX6_isDark 38 = .ok (.bipush 6, 2) := by decide +kernel
theorem dX6_isDark_40 : decode cX6_isDark 40 = .ok (.iaload, 1) := by decide +kernel
theorem dX6_isDark_41 : decode cX6_isDark 41 = .ok (.i2f, 1) := by decide +kernel
theorem dX6_isDark_42 : decode cX6_isDark 42 = .ok (.fcmp .g, 1) := by decide +kernel
theorem dX6_isDark_43 : decode cX6_isDark 43 = .ok (.ifCond .ge 7, 3) := by decide +kernel
theorem dX6_isDark_46 : decode cX6_isDark 46 = .ok (.iconst 1, 1) := by decide +kernel
theorem dX6_isDark_47 : decode cX6_isDark 47 = .ok (.goto 4, 3) := by decide +kernel
theorem dX6_isDark_50 : decode cX6_isDark 50 = .ok (.iconst 0, 1) := by decide +kernel
theorem dX6_isDark_51 : decode cX6_isDark 51 = .ok (.istore_n 2, 1) := by decide +kernel
theorem dX6_isDark_52 : decode cX6_isDark 52 = .ok (.iinc 3 1, 3) := by decide +kernel
theorem dX6_isDark_55 : decode cX6_isDark 55 = .ok (.goto (-51), 3) := by decide +kernel
theorem dX6_isDark_58 : decode cX6_isDark 58 = .ok (.iload_n 2, 1) := by decide +kernel
theorem dX6_isDark_59 : decode cX6_isDark 59 = .ok (.ireturn, 1) := by decide +kernel
theorem dX6_bestOf_0 : decode cX6_bestOf 0 = .ok (.sipush (-10001), 3) := by decide +kernel
theorem dX6_bestOf_3 : decode cX6_bestOf 3 = .ok (.istore_n 2, 1) := by decide +kernel
theorem dX6_bestOf_4 : decode cX6_bestOf 4 = .ok (.iconst 0, 1) := by decide +kernel
theorem dX6_bestOf_5 : decode cX6_bestOf 5 = .ok (.istore_n 3, 1) := by decide +kernel
theorem dX6_bestOf_6 : decode cX6_bestOf 6 = .ok (.aload_n 0, 1) := by decide +kernel
theorem dX6_bestOf_7 : decode cX6_bestOf 7 = .ok (.sipush (-10001), 3) := by decide +kernel
theorem dX6_bestOf_10 : decode cX6_bestOf 10 = .ok (.putfield 155, 3) := by decide +kernel
theorem dX6_bestOf_13 : decode cX6_bestOf 13 = .ok (.aload_n 0, 1) := by decide +kernel
theorem dX6_bestOf_14 : decode cX6_bestOf 14 = .ok (.sipush (-10001), 3) := by decide +kernel
theorem dX6_bestOf_17 : decode cX6_bestOf 17 = .ok (.putfield 158, 3) := by decide +kernel
theorem dX6_bestOf_20 : decode cX6_bestOf 20 = .ok (.iconst 0, 1) := by decide +kernel
theorem dX6_bestOf_21 : decode cX6_bestOf 21 = .ok (.istore 4, 2) := by decide +kernel
theorem dX6_bestOf_23 : decode cX6_bestOf 23 = .ok (.iload 4, 2) := by decide +kernel
theorem dX6_bestOf_25 : decode cX6_bestOf 25 = .ok (.aload_n 0, 1) := by decide +kernel
theorem dX6_bestOf_26 : decode cX6_bestOf 26 = .ok (.getfield 7, 3) := by decide +kernel
theorem dX6_bestOf_29 : decode cX6_bestOf 29 = .ok (.bipush 8, 2) := by decide +kernel
theorem dX6_bestOf_31 : decode cX6_bestOf 31 = .ok (.iaload, 1) := by decide +kernel
theorem dX6_bestOf_32 : decode cX6_bestOf 32 = .ok (.if_icmp .gt 149, 3) := by decide +kernel
theorem dX6_bestOf_35 : decode cX6_bestOf 35 = .ok (.iconst 1, 1) := by decide +kernel
theorem dX6_bestOf_36 : decode cX6_bestOf 36 = .ok (.istore 5, 2) := by decide +kernel
theorem dX6_bestOf_38 : decode cX6_bestOf 38 = .ok (.iconst 0, 1) := by decide +kernel
theorem dX6_bestOf_39 : decode cX6_bestOf 39 = .ok (.istore 6, 2) := by decide +kernel
theorem dX6_bestOf_41 : decode cX6_bestOf 41 = .ok (.iconst 0, 1) := by decide +kernel
theorem dX6_bestOf_42 : decode cX6_bestOf 42 = .ok (.istore 7, 2) := by decide +kernel
theorem dX6_bestOf_44 : decode cX6_bestOf 44 = .ok (.iload 7, 2) := by decide +kernel
theorem dX6_bestOf_46 : decode cX6_bestOf 46 = .ok (.iconst 3, 1) := by decide +kernel
theorem dX6_bestOf_47 : decode cX6_bestOf 47 = .ok (.if_icmp .ge 75, 3) := by decide +kernel
theorem dX6_bestOf_50 : decode cX6_bestOf 50 = .ok (.iload 5, 2) := by decide +kernel
theorem dX6_bestOf_52 : decode cX6_bestOf 52 = .ok (.ifCond .eq 70, 3) := by decide +kernel
theorem dX6_bestOf_55 : decode cX6_bestOf 55 = .ok (.iload_n 1, 1) := by decide +kernel
theorem dX6_bestOf_56 : decode cX6_bestOf 56 = .ok (.iload 7, 2) := by decide +kernel
theorem dX6_bestOf_58 : decode cX6_bestOf 58 = .ok (.ishr, 1) := by decide +kernel
theorem dX6_bestOf_59 : decode cX6_bestOf 59 = .ok (.iconst 1, 1) := by decide +kernel
theorem dX6_bestOf_60 : decode cX6_bestOf 60 = .ok (.iand, 1) := by decide +kernel
theorem dX6_bestOf_61 : decode cX6_bestOf 61 = .ok (.iconst 1, 1) := by decide +kernel
theorem dX6_bestOf_62 : decode cX6_bestOf 62 = .ok (.if_icmp .ne 54, 3) := by decide +kernel
theorem dX6_bestOf_65 : decode cX6_bestOf 65 = .ok (.iload 4, 2) := by decide +kernel
theorem dX6_bestOf_67 : decode cX6_bestOf 67 = .ok (.aload_n 0, 1) := by decide +kernel
theorem dX6_bestOf_68 : decode cX6_bestOf 68 = .ok (.getfield 25, 3) := by decide +kernel
theorem dX6_bestOf_71 : decode cX6_bestOf 71 = .ok (.iload 7, 2) := by decide +kernel
theorem dX6_bestOf_73 : decode cX6_bestOf 73 = .ok (.iaload, 1) := by decide +kernel
theorem dX6_bestOf_74 : decode cX6_bestOf 74 = .ok (.aload_n 0, 1) := by decide +kernel
theorem dX6_bestOf_75 : decode cX6_bestOf 75 = .ok (.getfield 7, 3) := by decide +kernel
theorem dX6_bestOf_78 : decode cX6_bestOf 78 = .ok (.iconst 2, 1) := by decide +kernel
theorem dX6_bestOf_79 : decode cX6_bestOf 79 = .ok (.iload 7, 2) := by decide +kernel
theorem dX6_bestOf_81 : decode cX6_bestOf 81 = .ok (.iadd, 1) := by decide +kernel
theorem dX6_bestOf_82 : decode cX6_bestOf 82 = .ok (.iaload, 1) := by decide +kernel
theorem dX6_bestOf_83 : decode cX6_bestOf 83 = .ok (.invokestatic 152, 3) := by decide +kernel
theorem dX6_bestOf_86 : decode cX6_bestOf 86 = .ok (.istore 8, 2) := by decide +kernel
theorem dX6_bestOf_88 : decode cX6_bestOf 88 = .ok (.iload 8, 2) := by decide +kernel
theorem dX6_bestOf_90 : decode cX6_bestOf 90 = .ok (.aload_n 0, 1) := by decide +kernel
theorem dX6_bestOf_91 : decode cX6_bestOf 91 = .ok (.getfield 7, 3) := by decide +kernel
theorem dX6_bestOf_94 : decode cX6_bestOf 94 = .ok (.iconst 5, 1) := by decide +kernel
theorem dX6_bestOf_95 : decode cX6_bestOf 95 = .ok (.iaload, 1) := by decide +kernel
theorem dX6_bestOf_96 : decode cX6_bestOf 96 = .ok (.if_icmp .gt 7, 3) := by decide +kernel
theorem dX6_bestOf_99 : decode cX6_bestOf 99 = .ok (.iconst 1, 1) := by decide +kernel
theorem dX6_bestOf_100 : decode cX6_bestOf 100 = .ok (.goto 4, 3) := by decide +kernel
theorem dX6_bestOf_103 : decode cX6_bestOf 103 = .ok (.iconst 0, 1) := by decide +kernel
theorem dX6_bestOf_104 : decode cX6_bestOf 104 = .ok (.istore 5, 2) := by decide +kernel
theorem dX6_bestOf_106 : decode cX6_bestOf 106 = .ok (.iload 6, 2) := by decide +kernel
theorem dX6_bestOf_108 : decode cX6_bestOf 108 = .ok (.iload 8, 2) := by decide +kernel
theorem dX6_bestOf_110 : decode cX6_bestOf 110 = .ok (.iload 8, 2) := by decide +kernel
theorem dX6_bestOf_112 : decode cX6_bestOf 112 = .ok (.imul, 1) := by decide +kernel
theorem dX6_bestOf_113 : decode cX6_bestOf 113 = .ok (.iadd, 1) := by decide +kernel
theorem dX6_bestOf_114 : decode cX6_bestOf 114 = .ok (.istore 6, 2) := by decide +kernel
theorem dX6_bestOf_116 : decode cX6_bestOf 116 = .ok (.iinc 7 1, 3) := by decide +kernel
theorem dX6_bestOf_119 : decode cX6_bestOf 119 = .ok (.goto (-75), 3) := by decide +kernel
theorem dX6_bestOf_122 : decode cX6_bestOf 122 = .ok (.iload 5, 2) := by decide +kernel
theorem dX6_bestOf_124 : decode cX6_bestOf 124 = .ok (.ifCond .eq 51, 3) := by decide +kernel
theorem dX6_bestOf_127 : decode cX6_bestOf 127 = .ok (.aload_n 0, 1) := by decide +kernel
theorem dX6_bestOf_128 : decode cX6_bestOf 128 = .ok (.aload_n 0, 1) := by decide +kernel
theorem dX6_bestOf_129 : decode cX6_bestOf 129 = .ok (.getfield 155, 3) := by decide +kernel
theorem dX6_bestOf_132 : decode cX6_bestOf 132 = .ok (.sipush (-10001), 3) := by decide +kernel
theorem dX6_bestOf_135 : decode cX6_bestOf 135 = .ok (.if_icmp .ne 8, 3) := by decide +kernel
theorem dX6_bestOf_138 : decode cX6_bestOf 138 = .ok (.iload 4, 2) := by decide +kernel
theorem dX6_bestOf_140 : decode cX6_bestOf 140 = .ok (.goto 7, 3) := by decide +kernel
theorem dX6_bestOf_143 : decode cX6_bestOf 143 = .ok (.aload_n 0, 1) := by decide +kernel
theorem dX6_bestOf_144 : decode cX6_bestOf 144 = .ok (.getfield 155, 3) := by decide +kernel
theorem dX6_bestOf_147 : decode cX6_bestOf 147 = .ok (.putfield 155, 3) := by decide +kernel
theorem dX6_bestOf_150 : decode cX6_bestOf 150 = .ok (.aload_n 0, 1) := by decide +kernel
theorem dX6_bestOf_151 : decode cX6_bestOf 151 = .ok (.iload 4, 2) := by decide +kernel
theorem dX6_bestOf_153 : decode cX6_bestOf 153 = .ok (.putfield 158, 3) := by decide +kernel
theorem dX6_bestOf_156 : decode cX6_bestOf 156 = .ok (.iload_n 2, 1) := by decide +kernel
theorem dX6_bestOf_157 : decode cX6_bestOf 157 = .ok (.sipush (-10001), 3) := by decide +kernel
theorem dX6_bestOf_160 : decode cX6_bestOf 160 = .ok (.if_icmp .eq 9, 3) := by decide +kernel
theorem dX6_bestOf_163 : decode cX6_bestOf 163 = .ok (.iload 6, 2) := by decide +kernel
theorem dX6_bestOf_165 : decode cX6_bestOf 165 = .ok (.iload_n 3, 1) := by decide +kernel
theorem dX6_bestOf_166 : decode cX6_bestOf 166 = .ok (.if_icmp .ge 9, 3) := by decide +kernel
theorem dX6_bestOf_169 : decode cX6_bestOf 169 = .ok (.iload 4, 2) := by decide +kernel
theorem dX6_bestOf_171 : decode cX6_bestOf 171 = .ok (.istore_n 2, 1) := by decide +kernel
theorem dX6_bestOf_172 : decode cX6_bestOf 172 = .ok (.iload 6, 2) := by decide +kernel
theorem dX6_bestOf_174 : decode cX6_bestOf 174 = .ok (.istore_n 3, 1) := by decide +kernel
theorem dX6_bestOf_175 : decode cX6_bestOf 175 = .ok (.iinc 4 1, 3) := by decide +kernel
theorem dX6_bestOf_178 : decode cX6_bestOf 178 = .ok (.goto (-155), 3) := by decide +kernel
theorem dX6_bestOf_181 : decode cX6_bestOf 181 = .ok (.iload_n 2, 1) := by decide +kernel
theorem dX6_bestOf_182 : decode cX6_bestOf 182 = .ok (.ireturn, 1) := by decide +kernel
theorem dX6_widens_0 : decode cX6_widens 0 = .ok (.aload_n 0, 1) := by decide +kernel
theorem dX6_widens_1 : decode cX6_widens 1 = .ok (.iload_n 1, 1) := by decide +kernel
theorem dX6_widens_2 : decode cX6_widens 2 = .ok (.sipush (-10001), 3) := by decide +kernel
theorem dX6_widens_5 : decode cX6_widens 5 = .ok (.if_icmp .eq 25, 3) := by decide +kernel
theorem dX6_widens_8 : decode cX6_widens 8 = .ok (.aload_n 0, 1) := by decide +kernel
theorem dX6_widens_9 : decode cX6_widens 9 = .ok (.getfield 161, 3) := by decide +kernel
theorem dX6_widens_12 : decode cX6_widens 12 = .ok (.sipush (-10001), 3) := by decide +kernel
theorem dX6_widens_15 : decode cX6_widens 15 = .ok (.if_icmp .eq 11, 3) := by decide +kernel
theorem dX6_widens_18 : decode cX6_widens 18 = .ok (.iload_n 1, 1) := by decide +kernel
theorem dX6_widens_19 : decode cX6_widens 19 = .ok (.aload_n 0, 1) := by decide +kernel
theorem dX6_widens_20 : decode cX6_widens 20 = .ok (.getfield 161, 3) := by decide +kernel
theorem dX6_widens_23 : decode cX6_widens 23 = .ok (.if_icmp .ge 7, 3) := by decide +kernel
theorem dX6_widens_26 : decode cX6_widens 26 = .ok (.iload_n 1, 1) := by decide +kernel
theorem dX6_widens_27 : decode cX6_widens 27 = .ok (.goto 7, 3) := by decide +kernel
theorem dX6_widens_30 : decode cX6_widens 30 = .ok (.aload_n 0, 1) := by decide +kernel
theorem dX6_widens_31 : decode cX6_widens 31 = .ok (.getfield 161, 3) := by decide +kernel
theorem dX6_widens_34 : decode cX6_widens 34 = .ok (.putfield 161, 3) := by decide +kernel
theorem dX6_widens_37 : decode cX6_widens 37 = .ok (.aload_n 0, 1) := by decide +kernel
theorem dX6_widens_38 : decode cX6_widens 38 = .ok (.iload_n 1, 1) := by decide +kernel
theorem dX6_widens_39 : decode cX6_widens 39 = .ok (.sipush (-10001), 3) := by decide +kernel
theorem dX6_widens_42 : decode cX6_widens 42 = .ok (.if_icmp .eq 25, 3) := by decide +kernel
theorem dX6_widens_45 : decode cX6_widens 45 = .ok (.aload_n 0, 1) := by decide +kernel
theorem dX6_widens_46 : decode cX6_widens 46 = .ok (.getfield 164, 3) := by decide +kernel
theorem dX6_widens_49 : decode cX6_widens 49 = .ok (.sipush (-10001), 3) := by decide +kernel
theorem dX6_widens_52 : decode cX6_widens 52 = .ok (.if_icmp .eq 11, 3) := by decide +kernel
theorem dX6_widens_55 : decode cX6_widens 55 = .ok (.iload_n 1, 1) := by decide +kernel
theorem dX6_widens_56 : decode cX6_widens 56 = .ok (.aload_n 0, 1) := by decide +kernel
theorem dX6_widens_57 : decode cX6_widens 57 = .ok (.getfield 164, 3) := by decide +kernel
theorem dX6_widens_60 : decode cX6_widens 60 = .ok (.if_icmp .le 7, 3) := by decide +kernel
theorem dX6_widens_63 : decode cX6_widens 63 = .ok (.iload_n 1, 1) := by decide +kernel
theorem dX6_widens_64 : decode cX6_widens 64 = .ok (.goto 7, 3) := by decide +kernel
theorem dX6_widens_67 : decode cX6_widens 67 = .ok (.aload_n 0, 1) := by decide +kernel
theorem dX6_widens_68 : decode cX6_widens 68 = .ok (.getfield 164, 3) := by decide +kernel
theorem dX6_widens_71 : decode cX6_widens 71 = .ok (.putfield 164, 3) := by decide +kernel
theorem dX6_widens_74 : decode cX6_widens 74 = .ok (.return_, 1) := by decide +kernel
theorem dX6_looksAt_0 : decode cX6_looksAt 0 = .ok (.aload_n 0, 1) := by decide +kernel
theorem dX6_looksAt_1 : decode cX6_looksAt 1 = .ok (.sipush (-10001), 3) := by decide +kernel
theorem dX6_looksAt_4 : decode cX6_looksAt 4 = .ok (.putfield 167, 3) := by decide +kernel
theorem dX6_looksAt_7 : decode cX6_looksAt 7 = .ok (.aload_n 0, 1) := by decide +kernel
theorem dX6_looksAt_8 : decode cX6_looksAt 8 = .ok (.sipush (-10001), 3) := by decide +kernel
theorem dX6_looksAt_11 : decode cX6_looksAt 11 = .ok (.putfield 161, 3) := by decide +kernel
theorem dX6_looksAt_14 : decode cX6_looksAt 14 = .ok (.aload_n 0, 1) := by decide +kernel
theorem dX6_looksAt_15 : decode cX6_looksAt 15 = .ok (.sipush (-10001), 3) := by decide +kernel
theorem dX6_looksAt_18 : decode cX6_looksAt 18 = .ok (.putfield 164, 3) := by decide +kernel
theorem dX6_looksAt_21 : decode cX6_looksAt 21 = .ok (.aload_n 0, 1) := by decide +kernel
theorem dX6_looksAt_22 : decode cX6_looksAt 22 = .ok (.iload_n 1, 1) := by decide +kernel
theorem dX6_looksAt_23 : decode cX6_looksAt 23 = .ok (.invokevirtual 170, 3) := by decide +kernel
theorem dX6_looksAt_26 : decode cX6_looksAt 26 = .ok (.ifCond .eq 9, 3) := by decide +kernel
theorem dX6_looksAt_29 : decode cX6_looksAt 29 = .ok (.aload_n 0, 1) := by decide +kernel
theorem dX6_looksAt_30 : decode cX6_looksAt 30 = .ok (.iconst 1, 1) := by decide +kernel
theorem dX6_looksAt_31 : decode cX6_looksAt 31 = .ok (.putfield 174, 3) := by decide +kernel
theorem dX6_looksAt_34 : decode cX6_looksAt 34 = .ok (.return_, 1) := by decide +kernel
theorem dX6_looksAt_35 : decode cX6_looksAt 35 = .ok (.aload_n 0, 1) := by decide +kernel
theorem dX6_looksAt_36 : decode cX6_looksAt 36 = .ok (.iload_n 1, 1) := by decide +kernel
theorem dX6_looksAt_37 : decode cX6_looksAt 37 = .ok (.invokevirtual 177, 3) := by decide +kernel
theorem dX6_looksAt_40 : decode cX6_looksAt 40 = .ok (.ifCond .eq 9, 3) := by decide +kernel
theorem dX6_looksAt_43 : decode cX6_looksAt 43 = .ok (.aload_n 0, 1) := by decide +kernel
theorem dX6_looksAt_44 : decode cX6_looksAt 44 = .ok (.iconst 2, 1) := by decide +kernel
theorem dX6_looksAt_45 : decode cX6_looksAt 45 = .ok (.putfield 174, 3) := by decide +kernel
theorem dX6_looksAt_48 : decode cX6_looksAt 48 = .ok (.return_, 1) := by decide +kernel
theorem dX6_looksAt_49 : decode cX6_looksAt 49 = .ok (.iconst 0, 1) := by decide +kernel
theorem dX6_looksAt_50 : decode cX6_looksAt 50 = .ok (.istore_n 2, 1) := by decide +kernel
theorem dX6_looksAt_51 : decode cX6_looksAt 51 = .ok (.iload_n 2, 1) := by decide +kernel
theorem dX6_looksAt_52 : decode cX6_looksAt 52 = .ok (.iconst 3, 1) := by decide +kernel
theorem dX6_looksAt_53 : decode cX6_looksAt 53 = .ok (.if_icmp .ge 32, 3) := by decide +kernel
theorem dX6_looksAt_56 : decode cX6_looksAt 56 = .ok (.aload_n 0, 1) := by decide +kernel
theorem dX6_looksAt_57 : decode cX6_looksAt 57 = .ok (.getfield 25, 3) := by decide +kernel
theorem dX6_looksAt_60 : decode cX6_looksAt 60 = .ok (.iload_n 2, 1) := by decide +kernel
theorem dX6_looksAt_61 : decode cX6_looksAt 61 = .ok (.aload_n 0, 1) := by decide +kernel
theorem dX6_looksAt_62 : decode cX6_looksAt 62 = .ok (.iload_n 1, 1) := by decide +kernel
theorem dX6_looksAt_63 : decode cX6_looksAt 63 = .ok (.iconst 4, 1) := by decide +kernel
theorem dX6_looksAt_64 : decode cX6_looksAt 64 = .ok (.iload_n 2, 1) := by decide +kernel
theorem dX6_looksAt_65 : decode cX6_looksAt 65 = .ok (.imul, 1) := by decide +kernel
theorem dX6_looksAt_66 : decode cX6_looksAt 66 = .ok (.iadd, 1) := by decide +kernel
theorem dX6_looksAt_67 : decode cX6_looksAt 67 = .ok (.aload_n 0, 1) := by decide +kernel
theorem dX6_looksAt_68 : decode cX6_looksAt 68 = .ok (.getfield 7, 3) := by decide +kernel
theorem dX6_looksAt_71 : decode cX6_looksAt 71 = .ok (.iconst 2, 1) := by decide +kernel
theorem dX6_looksAt_72 : decode cX6_looksAt 72 = .ok (.iload_n 2, 1) := by decide +kernel
theorem dX6_looksAt_73 : decode cX6_looksAt 73 = .ok (.iadd, 1) := by decide +kernel
theorem dX6_looksAt_74 : decode cX6_looksAt 74 = .ok (.iaload, 1) := by decide +kernel
theorem dX6_looksAt_75 : decode cX6_looksAt 75 = .ok (.invokevirtual 140, 3) := by decide +kernel
theorem dX6_looksAt_78 : decode cX6_looksAt 78 = .ok (.iastore, 1) := by decide +kernel
theorem dX6_looksAt_79 : decode cX6_looksAt 79 = .ok (.iinc 2 1, 3) := by decide +kernel
theorem dX6_looksAt_82 : decode cX6_looksAt 82 = .ok (.goto (-31), 3) := by decide +kernel
theorem dX6_looksAt_85 : decode cX6_looksAt 85 = .ok (.aload_n 0, 1) := by decide +kernel
theorem dX6_looksAt_86 : decode cX6_looksAt 86 = .ok (.bipush 7, 2) := by decide +kernel
theorem dX6_looksAt_88 : decode cX6_looksAt 88 = .ok (.invokevirtual 180, 3) := by decide +kernel
theorem dX6_looksAt_91 : decode cX6_looksAt 91 = .ok (.istore_n 2, 1) := by decide +kernel
theorem dX6_looksAt_92 : decode cX6_looksAt 92 = .ok (.iload_n 2, 1) := by decide +kernel
theorem dX6_looksAt_93 : decode cX6_looksAt 93 = .ok (.sipush (-10001), 3) := by decide +kernel
theorem dX6_looksAt_96 : decode cX6_looksAt 96 = .ok (.if_icmp .eq 60, 3) := by decide +kernel
theorem dX6_looksAt_99 : decode cX6_looksAt 99 = .ok (.iconst 2, 1) := by decide +kernel
theorem dX6_looksAt_100 : decode cX6_looksAt 100 = .ok (.aload_n 0, 1) := by decide +kernel
theorem dX6_looksAt_101 : decode cX6_looksAt 101 = .ok (.getfield 7, 3) := by decide +kernel
theorem dX6_looksAt_104 : decode cX6_looksAt 104 = .ok (.iconst 5, 1) := by decide +kernel
theorem dX6_looksAt_105 : decode cX6_looksAt 105 = .ok (.iaload, 1) := by decide +kernel
theorem dX6_looksAt_106 : decode cX6_looksAt 106 = .ok (.imul, 1) := by decide +kernel
theorem dX6_looksAt_107 : decode cX6_looksAt 107 = .ok (.istore_n 3, 1) := by decide +kernel
theorem dX6_looksAt_108 : decode cX6_looksAt 108 = .ok (.aload_n 0, 1) := by decide +kernel
theorem dX6_looksAt_109 : decode cX6_looksAt 109 = .ok (.iload_n 2, 1) := by decide +kernel
theorem dX6_looksAt_110 : decode cX6_looksAt 110 = .ok (.aload_n 0, 1) := by decide +kernel
theorem dX6_looksAt_111 : decode cX6_looksAt 111 = .ok (.getfield 155, 3) := by decide +kernel
theorem dX6_looksAt_114 : decode cX6_looksAt 114 = .ok (.isub, 1) := by decide +kernel
theorem dX6_looksAt_115 : decode cX6_looksAt 115 = .ok (.iload_n 3, 1) := by decide +kernel
theorem dX6_looksAt_116 : decode cX6_looksAt 116 = .ok (.if_icmp .gt 17, 3) := by decide +kernel
theorem dX6_looksAt_119 : decode cX6_looksAt 119 = .ok (.aload_n 0, 1) := by decide +kernel
theorem dX6_looksAt_120 : decode cX6_looksAt 120 = .ok (.getfield 158, 3) := by decide +kernel
theorem dX6_looksAt_123 : decode cX6_looksAt 123 = .ok (.iload_n 2, 1) := by decide +kernel
theorem dX6_looksAt_124 : decode cX6_looksAt 124 = .ok (.isub, 1) := by decide +kernel
theorem dX6_looksAt_125 : decode cX6_looksAt 125 = .ok (.iload_n 3, 1) := by decide +kernel
theorem dX6_looksAt_126 : decode cX6_looksAt 126 = .ok (.if_icmp .gt 7, 3) := by decide +kernel
theorem dX6_looksAt_129 : decode cX6_looksAt 129 = .ok (.iconst 0, 1) := by decide +kernel
theorem dX6_looksAt_130 : decode cX6_looksAt 130 = .ok (.goto 4, 3) := by decide +kernel
theorem dX6_looksAt_133 : decode cX6_looksAt 133 = .ok (.iconst 3, 1) := by decide +kernel
theorem dX6_looksAt_134 : decode cX6_looksAt 134 = .ok (.putfield 174, 3) := by decide +kernel
theorem dX6_looksAt_137 : decode cX6_looksAt 137 = .ok (.aload_n 0, 1) := by decide +kernel
theorem dX6_looksAt_138 : decode cX6_looksAt 138 = .ok (.aload_n 0, 1) := by decide +kernel
theorem dX6_looksAt_139 : decode cX6_looksAt 139 = .ok (.getfield 174, 3) := by decide +kernel
theorem dX6_looksAt_142 : decode cX6_looksAt 142 = .ok (.ifCond .ne 7, 3) := by decide +kernel
theorem dX6_looksAt_145 : decode cX6_looksAt 145 = .ok (.iload_n 2, 1) := by decide +kernel
theorem dX6_looksAt_146 : decode cX6_looksAt 146 = .ok (.goto 6, 3) := by decide +kernel
theorem dX6_looksAt_149 : decode cX6_looksAt 149 = .ok (.sipush (-10001), 3) := by decide +kernel
theorem dX6_looksAt_152 : decode cX6_looksAt 152 = .ok (.putfield 167, 3) := by decide +kernel
theorem dX6_looksAt_155 : decode cX6_looksAt 155 = .ok (.return_, 1) := by decide +kernel
theorem dX6_looksAt_156 : decode cX6_looksAt 156 = .ok (.aload_n 0, 1) := by decide +kernel
theorem dX6_looksAt_157 : decode cX6_looksAt 157 = .ok (.aload_n 0, 1) := by decide +kernel
theorem dX6_looksAt_158 : decode cX6_looksAt 158 = .ok (.iconst 3, 1) := by decide +kernel
theorem dX6_looksAt_159 : decode cX6_looksAt 159 = .ok (.invokevirtual 180, 3) := by decide +kernel
theorem dX6_looksAt_162 : decode cX6_looksAt 162 = .ok (.invokevirtual 183, 3) := by decide +kernel
theorem dX6_looksAt_165 : decode cX6_looksAt 165 = .ok (.aload_n 0, 1) := by decide +kernel
theorem dX6_looksAt_166 : decode cX6_looksAt 166 = .ok (.aload_n 0, 1) := by decide +kernel
theorem dX6_looksAt_167 : decode cX6_looksAt 167 = .ok (.iconst 5, 1) := by decide +kernel
theorem dX6_looksAt_168 : decode cX6_looksAt 168 = .ok (.invokevirtual 180, 3) := by decide +kernel
theorem dX6_looksAt_171 : decode cX6_looksAt 171 = .ok (.invokevirtual 183, 3) := by decide +kernel
theorem dX6_looksAt_174 : decode cX6_looksAt 174 = .ok (.aload_n 0, 1) := by decide +kernel
theorem dX6_looksAt_175 : decode cX6_looksAt 175 = .ok (.aload_n 0, 1) := by decide +kernel
theorem dX6_looksAt_176 : decode cX6_looksAt 176 = .ok (.bipush 6, 2) := by decide +kernel
theorem dX6_looksAt_178 : decode cX6_looksAt 178 = .ok (.invokevirtual 180, 3) := by decide +kernel
theorem dX6_looksAt_181 : decode cX6_looksAt 181 = .ok (.invokevirtual 183, 3) := by decide +kernel
theorem dX6_looksAt_184 : decode cX6_looksAt 184 = .ok (.aload_n 0, 1) := by decide +kernel
theorem dX6_looksAt_185 : decode cX6_looksAt 185 = .ok (.aload_n 0, 1) := by decide +kernel
theorem dX6_looksAt_186 : decode cX6_looksAt 186 = .ok (.getfield 161, 3) := by decide +kernel
theorem dX6_looksAt_189 : decode cX6_looksAt 189 = .ok (.sipush (-10001), 3) := by decide +kernel
theorem dX6_looksAt_192 : decode cX6_looksAt 192 = .ok (.if_icmp .ne 7, 3) := by decide +kernel
theorem dX6_looksAt_195 : decode cX6_looksAt 195 = .ok (.iconst 5, 1) := by decide +kernel
theorem dX6_looksAt_196 : decode cX6_looksAt 196 = .ok (.goto 4, 3) := by decide +kernel
theorem dX6_looksAt_199 : decode cX6_looksAt 199 = .ok (.iconst 4, 1) := by decide +kernel
theorem dX6_looksAt_200 : decode cX6_looksAt 200 = .ok (.putfield 174, 3) := by decide +kernel
theorem dX6_looksAt_203 : decode cX6_looksAt 203 = .ok (.return_, 1) := by decide +kernel
theorem dX6_looksAtAll_0 : decode cX6_looksAtAll 0 = .ok (.iconst 0, 1) := by decide +kernel
theorem dX6_looksAtAll_1 : decode cX6_looksAtAll 1 = .ok (.istore_n 2, 1) := by decide +kernel
theorem dX6_looksAtAll_2 : decode cX6_looksAtAll 2 = .ok (.iload_n 2, 1) := by decide +kernel
theorem dX6_looksAtAll_3 : decode cX6_looksAtAll 3 = .ok (.aload_n 0, 1) := by decide +kernel
theorem dX6_looksAtAll_4 : decode cX6_looksAtAll 4 = .ok (.getfield 7, 3) := by decide +kernel
theorem dX6_looksAtAll_7 : decode cX6_looksAtAll 7 = .ok (.iconst 1, 1) := by decide +kernel
theorem dX6_looksAtAll_8 : decode cX6_looksAtAll 8 = .ok (.iaload, 1) := by decide +kernel
theorem dX6_looksAtAll_9 : decode cX6_looksAtAll 9 = .ok (.if_icmp .ge 93, 3) := by decide +kernel
theorem dX6_looksAtAll_12 : decode cX6_looksAtAll 12 = .ok (.iconst 0, 1) := by decide +kernel
theorem dX6_looksAtAll_13 : decode cX6_looksAtAll 13 = .ok (.istore_n 3, 1) := by decide +kernel
theorem dX6_looksAtAll_14 : decode cX6_looksAtAll 14 = .ok (.iload_n 3, 1) := by decide +kernel
theorem dX6_looksAtAll_15 : decode cX6_looksAtAll 15 = .ok (.aload_n 0, 1) := by decide +kernel
theorem dX6_looksAtAll_16 : decode cX6_looksAtAll 16 = .ok (.getfield 7, 3) := by decide +kernel
theorem dX6_looksAtAll_19 : decode cX6_looksAtAll 19 = .ok (.iconst 0, 1) := by decide +kernel
theorem dX6_looksAtAll_20 : decode cX6_looksAtAll 20 = .ok (.iaload, 1) := by decide +kernel
theorem dX6_looksAtAll_21 : decode cX6_looksAtAll 21 = .ok (.if_icmp .ge 75, 3) := by decide +kernel
theorem dX6_looksAtAll_24 : decode cX6_looksAtAll 24 = .ok (.aload_n 0, 1) := by decide +kernel
theorem dX6_looksAtAll_25 : decode cX6_looksAtAll 25 = .ok (.iload_n 1, 1) := by decide +kernel
theorem dX6_looksAtAll_26 : decode cX6_looksAtAll 26 = .ok (.iload_n 3, 1) := by decide +kernel
theorem dX6_looksAtAll_27 : decode cX6_looksAtAll 27 = .ok (.iload_n 2, 1) := by decide +kernel
theorem dX6_looksAtAll_28 : decode cX6_looksAtAll 28 = .ok (.invokestatic 72, 3) := by decide +kernel
theorem dX6_looksAtAll_31 : decode cX6_looksAtAll 31 = .ok (.invokevirtual 187, 3) := by decide +kernel
theorem dX6_looksAtAll_34 : decode cX6_looksAtAll 34 = .ok (.aload_n 0, 1) := by decide +kernel
theorem dX6_looksAtAll_35 : decode cX6_looksAtAll 35 = .ok (.getfield 28, 3) := by decide +kernel
theorem dX6_looksAtAll_38 : decode cX6_looksAtAll 38 = .ok (.iconst 4, 1) := by decide +kernel
theorem dX6_looksAtAll_39 : decode cX6_looksAtAll 39 = .ok (.iload_n 2, 1) := by decide +kernel
theorem dX6_looksAtAll_40 : decode cX6_looksAtAll 40 = .ok (.imul, 1) := by decide +kernel
theorem dX6_looksAtAll_41 : decode cX6_looksAtAll 41 = .ok (.iload_n 3, 1) := by decide +kernel
theorem dX6_looksAtAll_42 : decode cX6_looksAtAll 42 = .ok (.iadd, 1) := by decide +kernel
theorem dX6_looksAtAll_43 : decode cX6_looksAtAll 43 = .ok (.aload_n 0, 1) := by decide +kernel
theorem dX6_looksAtAll_44 : decode cX6_looksAtAll 44 = .ok (.getfield 174, 3) := by decide +kernel
theorem dX6_looksAtAll_47 : decode cX6_looksAtAll 47 = .ok (.iastore, 1) := by decide +kernel
theorem dX6_looksAtAll_48 : decode cX6_looksAtAll 48 = .ok (.aload_n 0, 1) := by decide +kernel
theorem dX6_looksAtAll_49 : decode cX6_looksAtAll 49 = .ok (.getfield 31, 3) := by decide +kernel
theorem dX6_looksAtAll_52 : decode cX6_looksAtAll 52 = .ok (.iconst 4, 1) := by decide +kernel
theorem dX6_looksAtAll_53 : decode cX6_looksAtAll 53 = .ok (.iload_n 2, 1) := by decide +kernel
theorem dX6_looksAtAll_54 : decode cX6_looksAtAll 54 = .ok (.imul, 1) := by decide +kernel
theorem dX6_looksAtAll_55 : decode cX6_looksAtAll 55 = .ok (.iload_n 3, 1) := by decide +kernel
theorem dX6_looksAtAll_56 : decode cX6_looksAtAll 56 = .ok (.iadd, 1) := by decide +kernel
theorem dX6_looksAtAll_57 : decode cX6_looksAtAll 57 = .ok (.aload_n 0, 1) := by decide +kernel
theorem dX6_looksAtAll_58 : decode cX6_looksAtAll 58 = .ok (.getfield 167, 3) := by decide +kernel
theorem dX6_looksAtAll_61 : decode cX6_looksAtAll 61 = .ok (.iastore, 1) := by decide +kernel
theorem dX6_looksAtAll_62 : decode cX6_looksAtAll 62 = .ok (.aload_n 0, 1) := by decide +kernel
theorem dX6_looksAtAll_63 : decode cX6_looksAtAll 63 = .ok (.getfield 34, 3) := by decide +kernel
theorem dX6_looksAtAll_66 : decode cX6_looksAtAll 66 = .ok (.iconst 4, 1) := by decide +kernel
theorem dX6_looksAtAll_67 : decode cX6_looksAtAll 67 = .ok (.iload_n 2, 1) := by decide +kernel
theorem dX6_looksAtAll_68 : decode cX6_looksAtAll 68 = .ok (.imul, 1) := by decide +kernel
theorem dX6_looksAtAll_69 : decode cX6_looksAtAll 69 = .ok (.iload_n 3, 1) := by decide +kernel
theorem dX6_looksAtAll_70 : decode cX6_looksAtAll 70 = .ok (.iadd, 1) := by decide +kernel
theorem dX6_looksAtAll_71 : decode cX6_looksAtAll 71 = .ok (.aload_n 0, 1) := by decide +kernel
theorem dX6_looksAtAll_72 : decode cX6_looksAtAll 72 = .ok (.getfield 161, 3) := by decide +kernel
theorem dX6_looksAtAll_75 : decode cX6_looksAtAll 75 = .ok (.iastore, 1) := by decide +kernel
theorem dX6_looksAtAll_76 : decode cX6_looksAtAll 76 = .ok (.aload_n 0, 1) := by decide +kernel
theorem dX6_looksAtAll_77 : decode cX6_looksAtAll 77 = .ok (.getfield 37, 3) := by decide +kernel
theorem dX6_looksAtAll_80 : decode cX6_looksAtAll 80 = .ok (.iconst 4, 1) := by decide +kernel
theorem dX6_looksAtAll_81 : decode cX6_looksAtAll 81 = .ok (.iload_n 2, 1) := by decide +kernel
theorem dX6_looksAtAll_82 : decode cX6_looksAtAll 82 = .ok (.imul, 1) := by decide +kernel
theorem dX6_looksAtAll_83 : decode cX6_looksAtAll 83 = .ok (.iload_n 3, 1) := by decide +kernel
theorem dX6_looksAtAll_84 : decode cX6_looksAtAll 84 = .ok (.iadd, 1) := by decide +kernel
theorem dX6_looksAtAll_85 : decode cX6_looksAtAll 85 = .ok (.aload_n 0, 1) := by decide +kernel
theorem dX6_looksAtAll_86 : decode cX6_looksAtAll 86 = .ok (.getfield 164, 3) := by decide +kernel
theorem dX6_looksAtAll_89 : decode cX6_looksAtAll 89 = .ok (.iastore, 1) := by decide +kernel
theorem dX6_looksAtAll_90 : decode cX6_looksAtAll 90 = .ok (.iinc 3 1, 3) := by decide +kernel
theorem dX6_looksAtAll_93 : decode cX6_looksAtAll 93 = .ok (.goto (-79), 3) := by decide +kernel
theorem dX6_looksAtAll_96 : decode cX6_looksAtAll 96 = .ok (.iinc 2 1, 3) := by decide +kernel
theorem dX6_looksAtAll_99 : decode cX6_looksAtAll 99 = .ok (.goto (-97), 3) := by decide +kernel
theorem dX6_looksAtAll_102 : decode cX6_looksAtAll 102 = .ok (.return_, 1) := by decide +kernel
theorem dX6_wraps_0 : decode cX6_wraps 0 = .ok (.aload_n 0, 1) := by decide +kernel
theorem dX6_wraps_1 : decode cX6_wraps 1 = .ok (.iload_n 1, 1) := by decide +kernel
theorem dX6_wraps_2 : decode cX6_wraps 2 = .ok (.iload_n 2, 1) := by decide +kernel
theorem dX6_wraps_3 : decode cX6_wraps 3 = .ok (.iload_n 3, 1) := by decide +kernel
theorem dX6_wraps_4 : decode cX6_wraps 4 = .ok (.iload 4, 2) := by decide +kernel
theorem dX6_wraps_6 : decode cX6_wraps 6 = .ok (.invokevirtual 136, 3) := by decide +kernel
theorem dX6_wraps_9 : decode cX6_wraps 9 = .ok (.ifCond .ne 8, 3) := by decide +kernel
theorem dX6_wraps_12 : decode cX6_wraps 12 = .ok (.aload_n 0, 1) := by decide +kernel
theorem dX6_wraps_13 : decode cX6_wraps 13 = .ok (.invokevirtual 54, 3) := by decide +kernel
theorem dX6_wraps_16 : decode cX6_wraps 16 = .ok (.ireturn, 1) := by decide +kernel
theorem dX6_wraps_17 : decode cX6_wraps 17 = .ok (.aload_n 0, 1) := by decide +kernel
theorem dX6_wraps_18 : decode cX6_wraps 18 = .ok (.iload_n 1, 1) := by decide +kernel
theorem dX6_wraps_19 : decode cX6_wraps 19 = .ok (.iload_n 2, 1) := by decide +kernel
theorem dX6_wraps_20 : decode cX6_wraps 20 = .ok (.iload_n 3, 1) := by decide +kernel
theorem dX6_wraps_21 : decode cX6_wraps 21 = .ok (.invokestatic 72, 3) := by decide +kernel
theorem dX6_wraps_24 : decode cX6_wraps 24 = .ok (.invokevirtual 187, 3) := by decide +kernel
theorem dX6_wraps_27 : decode cX6_wraps 27 = .ok (.aload_n 0, 1) := by decide +kernel
theorem dX6_wraps_28 : decode cX6_wraps 28 = .ok (.getfield 174, 3) := by decide +kernel
theorem dX6_wraps_31 : decode cX6_wraps 31 = .ok (.ifCond .ne 20, 3) := by decide +kernel
theorem dX6_wraps_34 : decode cX6_wraps 34 = .ok (.aload_n 0, 1) := by decide +kernel
theorem dX6_wraps_35 : decode cX6_wraps 35 = .ok (.getfield 167, 3) := by decide +kernel
theorem dX6_wraps_38 : decode cX6_wraps 38 = .ok (.aload_n 0, 1) := by decide +kernel
theorem dX6_wraps_39 : decode cX6_wraps 39 = .ok (.getfield 7, 3) := by decide +kernel
theorem dX6_wraps_42 : decode cX6_wraps 42 = .ok (.iconst 2, 1) := by decide +kernel
theorem dX6_wraps_43 : decode cX6_wraps 43 = .ok (.iload 4, 2) := by decide +kernel
theorem dX6_wraps_45 : decode cX6_wraps 45 = .ok (.iadd, 1) := by decide +kernel
theorem dX6_wraps_46 : decode cX6_wraps 46 = .ok (.iaload, 1) := by decide +kernel
theorem dX6_wraps_47 : decode cX6_wraps 47 = .ok (.idiv, 1) := by decide +kernel
theorem dX6_wraps_48 : decode cX6_wraps 48 = .ok (.goto 7, 3) := by decide +kernel
theorem dX6_wraps_51 : decode cX6_wraps 51 = .ok (.aload_n 0, 1) := by decide +kernel
theorem dX6_wraps_52 : decode cX6_wraps 52 = .ok (.invokevirtual 50, 3) := by decide +kernel
theorem dX6_wraps_55 : decode cX6_wraps 55 = .ok (.ireturn, 1) := by decide +kernel
theorem dX6_mark_0 : decode cX6_mark 0 = .ok (.aload_n 0, 1) := by decide +kernel
theorem dX6_mark_1 : decode cX6_mark 1 = .ok (.iload_n 1, 1) := by decide +kernel
theorem dX6_mark_2 : decode cX6_mark 2 = .ok (.iload_n 2, 1) := by decide +kernel
theorem dX6_mark_3 : decode cX6_mark 3 = .ok (.iload_n 3, 1) := by decide +kernel
theorem dX6_mark_4 : decode cX6_mark 4 = .ok (.invokevirtual 69, 3) := by decide +kernel
theorem dX6_mark_7 : decode cX6_mark 7 = .ok (.ifCond .ne 8, 3) := by decide +kernel
theorem dX6_mark_10 : decode cX6_mark 10 = .ok (.aload_n 0, 1) := by decide +kernel
theorem dX6_mark_11 : decode cX6_mark 11 = .ok (.invokevirtual 54, 3) := by decide +kernel
theorem dX6_mark_14 : decode cX6_mark 14 = .ok (.ireturn, 1) := by decide +kernel
theorem dX6_mark_15 : decode cX6_mark 15 = .ok (.aload_n 0, 1) := by decide +kernel
theorem dX6_mark_16 : decode cX6_mark 16 = .ok (.iload_n 1, 1) := by decide +kernel
theorem dX6_mark_17 : decode cX6_mark 17 = .ok (.iload_n 2, 1) := by decide +kernel
theorem dX6_mark_18 : decode cX6_mark 18 = .ok (.iload_n 3, 1) := by decide +kernel
theorem dX6_mark_19 : decode cX6_mark 19 = .ok (.invokestatic 72, 3) := by decide +kernel
theorem dX6_mark_22 : decode cX6_mark 22 = .ok (.invokevirtual 187, 3) := by decide +kernel
theorem dX6_mark_25 : decode cX6_mark 25 = .ok (.aload_n 0, 1) := by decide +kernel
theorem dX6_mark_26 : decode cX6_mark 26 = .ok (.getfield 174, 3) := by decide +kernel
theorem dX6_mark_29 : decode cX6_mark 29 = .ok (.ireturn, 1) := by decide +kernel
theorem dX6_glowOf_0 : decode cX6_glowOf 0 = .ok (.aload_n 0, 1) := by decide +kernel
theorem dX6_glowOf_1 : decode cX6_glowOf 1 = .ok (.iload_n 1, 1) := by decide +kernel
theorem dX6_glowOf_2 : decode cX6_glowOf 2 = .ok (.invokevirtual 143, 3) := by decide +kernel
theorem dX6_glowOf_5 : decode cX6_glowOf 5 = .ok (.aload_n 0, 1) := by decide +kernel
theorem dX6_glowOf_6 : decode cX6_glowOf 6 = .ok (.iload_n 1, 1) := by decide +kernel
theorem dX6_glowOf_7 : decode cX6_glowOf 7 = .ok (.iconst 4, 1) := by decide +kernel
theorem dX6_glowOf_8 : decode cX6_glowOf 8 = .ok (.iadd, 1) := by decide +kernel
theorem dX6_glowOf_9 : decode cX6_glowOf 9 = .ok (.invokevirtual 143, 3) := by decide +kernel
theorem dX6_glowOf_12 : decode cX6_glowOf 12 = .ok (.fadd, 1) := by decide +kernel
theorem dX6_glowOf_13 : decode cX6_glowOf 13 = .ok (.aload_n 0, 1) := by decide +kernel
theorem dX6_glowOf_14 : decode cX6_glowOf 14 = .ok (.iload_n 1, 1) := by decide +kernel
theorem dX6_glowOf_15 : decode cX6_glowOf 15 = .ok (.bipush 8, 2) := by decide +kernel
theorem dX6_glowOf_17 : decode cX6_glowOf 17 = .ok (.iadd, 1) := by decide +kernel
theorem dX6_glowOf_18 : decode cX6_glowOf 18 = .ok (.invokevirtual 143, 3) := by decide +kernel
theorem dX6_glowOf_21 : decode cX6_glowOf 21 = .ok (.fadd, 1) := by decide +kernel
theorem dX6_glowOf_22 : decode cX6_glowOf 22 = .ok (.freturn, 1) := by decide +kernel
theorem dX6_weighs_0 : decode cX6_weighs 0 = .ok (.aload_n 0, 1) := by decide +kernel
theorem dX6_weighs_1 : decode cX6_weighs 1 = .ok (.iload_n 1, 1) := by decide +kernel
theorem dX6_weighs_2 : decode cX6_weighs 2 = .ok (.iload_n 2, 1) := by decide +kernel
theorem dX6_weighs_3 : decode cX6_weighs 3 = .ok (.iload_n 3, 1) := by decide +kernel
theorem dX6_weighs_4 : decode cX6_weighs 4 = .ok (.invokevirtual 69, 3) := by decide +kernel
theorem dX6_weighs_7 : decode cX6_weighs 7 = .ok (.ifCond .ne 4, 3) := by decide +kernel
theorem dX6_weighs_10 : decode cX6_weighs 10 = .ok (.return_, 1) := by decide +kernel
theorem dX6_weighs_11 : decode cX6_weighs 11 = .ok (.aload_n 0, 1) := by decide +kernel
theorem dX6_weighs_12 : decode cX6_weighs 12 = .ok (.iload_n 1, 1) := by decide +kernel
theorem dX6_weighs_13 : decode cX6_weighs 13 = .ok (.iload_n 2, 1) := by decide +kernel
theorem dX6_weighs_14 : decode cX6_weighs 14 = .ok (.iload_n 3, 1) := by decide +kernel
theorem dX6_weighs_15 : decode cX6_weighs 15 = .ok (.invokestatic 72, 3) := by decide +kernel
theorem dX6_weighs_18 : decode cX6_weighs 18 = .ok (.invokevirtual 187, 3) := by decide +kernel
theorem dX6_weighs_21 : decode cX6_weighs 21 = .ok (.aload_n 0, 1) := by decide +kernel
theorem dX6_weighs_22 : decode cX6_weighs 22 = .ok (.iload_n 1, 1) := by decide +kernel
theorem dX6_weighs_23 : decode cX6_weighs 23 = .ok (.iload_n 2, 1) := by decide +kernel
theorem dX6_weighs_24 : decode cX6_weighs 24 = .ok (.iload_n 3, 1) := by decide +kernel
theorem dX6_weighs_25 : decode cX6_weighs 25 = .ok (.invokestatic 72, 3) := by decide +kernel
theorem dX6_weighs_28 : decode cX6_weighs 28 = .ok (.invokevirtual 190, 3) := by decide +kernel
theorem dX6_weighs_31 : decode cX6_weighs 31 = .ok (.fload 4, 2) := by decide +kernel
theorem dX6_weighs_33 : decode cX6_weighs 33 = .ok (.fsub, 1) := by decide +kernel
theorem dX6_weighs_34 : decode cX6_weighs 34 = .ok (.fstore 5, 2) := by decide +kernel
theorem dX6_weighs_36 : decode cX6_weighs 36 = .ok (.fload 5, 2) := by decide +kernel
theorem dX6_weighs_38 : decode cX6_weighs 38 = .ok (.fconst 0, 1) := by decide +kernel
theorem dX6_weighs_39 : decode cX6_weighs 39 = .ok (.fcmp .g, 1) := by decide +kernel
theorem dX6_weighs_40 : decode cX6_weighs 40 = .ok (.ifCond .ge 9, 3) := by decide +kernel
theorem dX6_weighs_43 : decode cX6_weighs 43 = .ok (.fload 5, 2) := by decide +kernel
theorem dX6_weighs_45 : decode cX6_weighs 45 = .ok (.fneg, 1) := by decide +kernel
theorem dX6_weighs_46 : decode cX6_weighs 46 = .ok (.goto 5, 3) := by decide +kernel
theorem dX6_weighs_49 : decode cX6_weighs 49 = .ok (.fload 5, 2) := by decide +kernel
theorem dX6_weighs_51 : decode cX6_weighs 51 = .ok (.fstore 5, 2) := by decide +kernel
theorem dX6_weighs_53 : decode cX6_weighs 53 = .ok (.aload_n 0, 1) := by decide +kernel
theorem dX6_weighs_54 : decode cX6_weighs 54 = .ok (.getfield 174, 3) := by decide +kernel
theorem dX6_weighs_57 : decode cX6_weighs 57 = .ok (.ifCond .ne 70, 3) := by decide +kernel
theorem dX6_weighs_60 : decode cX6_weighs 60 = .ok (.fload 5, 2) := by decide +kernel
theorem dX6_weighs_62 : decode cX6_weighs 62 = .ok (.ldc 76, 2) := by decide +kernel
theorem dX6_weighs_64 : decode cX6_weighs 64 = .ok (.aload_n 0, 1) := by decide +kernel
theorem dX6_weighs_65 : decode cX6_weighs 65 = .ok (.getfield 7, 3) := by decide +kernel
theorem dX6_weighs_68 : decode cX6_weighs 68 = .ok (.bipush 9, 2) := by decide +kernel
theorem dX6_weighs_70 : decode cX6_weighs 70 = .ok (.iaload, 1) := by decide +kernel
theorem dX6_weighs_71 : decode cX6_weighs 71 = .ok (.i2f, 1) := by decide +kernel
theorem dX6_weighs_72 : decode cX6_weighs 72 = .ok (.fmul, 1) := by decide +kernel
theorem dX6_weighs_73 : decode cX6_weighs 73 = .ok (.fcmp .g, 1) := by decide +kernel
theorem dX6_weighs_74 : decode cX6_weighs 74 = .ok (.ifCond .gt 53, 3) := by decide +kernel
theorem dX6_weighs_77 : decode cX6_weighs 77 = .ok (.fconst 1, 1) := by decide +kernel
theorem dX6_weighs_78 : decode cX6_weighs 78 = .ok (.fconst 1, 1) := by decide +kernel
theorem dX6_weighs_79 : decode cX6_weighs 79 = .ok (.fload 5, 2) := by decide +kernel
theorem dX6_weighs_81 : decode cX6_weighs 81 = .ok (.aload_n 0, 1) := by decide +kernel
theorem dX6_weighs_82 : decode cX6_weighs 82 = .ok (.getfield 7, 3) := by decide +kernel
theorem dX6_weighs_85 : decode cX6_weighs 85 = .ok (.bipush 9, 2) := by decide +kernel
theorem dX6_weighs_87 : decode cX6_weighs 87 = .ok (.iaload, 1) := by decide +kernel
theorem dX6_weighs_88 : decode cX6_weighs 88 = .ok (.i2f, 1) := by decide +kernel
theorem dX6_weighs_89 : decode cX6_weighs 89 = .ok (.fdiv, 1) := by decide +kernel
theorem dX6_weighs_90 : decode cX6_weighs 90 = .ok (.fadd, 1) := by decide +kernel
theorem dX6_weighs_91 : decode cX6_weighs 91 = .ok (.fdiv, 1) := by decide +kernel
theorem dX6_weighs_92 : decode cX6_weighs 92 = .ok (.fstore 6, 2) := by decide +kernel
theorem dX6_weighs_94 : decode cX6_weighs 94 = .ok (.aload_n 0, 1) := by decide +kernel
theorem dX6_weighs_95 : decode cX6_weighs 95 = .ok (.aload_n 0, 1) := by decide +kernel
theorem dX6_weighs_96 : decode cX6_weighs 96 = .ok (.getfield 193, 3) := by decide +kernel
theorem dX6_weighs_99 : decode cX6_weighs 99 = .ok (.fload 6, 2) := by decide +kernel
theorem dX6_weighs_101 : decode cX6_weighs 101 = .ok (.fadd, 1) := by decide +kernel
theorem dX6_weighs_102 : decode cX6_weighs 102 = .ok (.putfield 193, 3) := by decide +kernel
theorem dX6_weighs_105 : decode cX6_weighs 105 = .ok (.aload_n 0, 1) := by decide +kernel
theorem dX6_weighs_106 : decode cX6_weighs 106 = .ok (.aload_n 0, 1) := by decide +kernel
theorem dX6_weighs_107 : decode cX6_weighs 107 = .ok (.getfield 197, 3) := by decide +kernel
theorem dX6_weighs_110 : decode cX6_weighs 110 = .ok (.fload 6, 2) := by decide +kernel
theorem dX6_weighs_112 : decode cX6_weighs 112 = .ok (.aload_n 0, 1) := by decide +kernel
theorem dX6_weighs_113 : decode cX6_weighs 113 = .ok (.getfield 167, 3) := by decide +kernel
theorem dX6_weighs_116 : decode cX6_weighs 116 = .ok (.i2f, 1) := by decide +kernel
theorem dX6_weighs_117 : decode cX6_weighs 117 = .ok (.fmul, 1) := by decide +kernel
theorem dX6_weighs_118 : decode cX6_weighs 118 = .ok (.fadd, 1) := by decide +kernel
theorem dX6_weighs_119 : decode cX6_weighs 119 = .ok (.putfield 197, 3) := by decide +kernel
theorem dX6_weighs_122 : decode cX6_weighs 122 = .ok (.aload_n 0, 1) := by decide +kernel
theorem dX6_weighs_123 : decode cX6_weighs 123 = .ok (.iconst 1, 1) := by decide +kernel
theorem dX6_weighs_124 : decode cX6_weighs 124 = .ok (.putfield 200, 3) := by decide +kernel
theorem dX6_weighs_127 : decode cX6_weighs 127 = .ok (.return_, 1) := by decide +kernel
theorem dX6_filledOf_0 : decode cX6_filledOf 0 = .ok (.aload_n 0, 1) := by decide +kernel
theorem dX6_filledOf_1 : decode cX6_filledOf 1 = .ok (.iload_n 1, 1) := by decide +kernel
theorem dX6_filledOf_2 : decode cX6_filledOf 2 = .ok (.iload_n 2, 1) := by decide +kernel
theorem dX6_filledOf_3 : decode cX6_filledOf 3 = .ok (.iload_n 3, 1) := by decide +kernel
theorem dX6_filledOf_4 : decode cX6_filledOf 4 = .ok (.invokestatic 72, 3) := by decide +kernel
theorem dX6_filledOf_7 : decode cX6_filledOf 7 = .ok (.invokevirtual 190, 3) := by decide +kernel
theorem dX6_filledOf_10 : decode cX6_filledOf 10 = .ok (.fstore 4, 2) := by decide +kernel
theorem dX6_filledOf_12 : decode cX6_filledOf 12 = .ok (.aload_n 0, 1) := by decide +kernel
theorem dX6_filledOf_13 : decode cX6_filledOf 13 = .ok (.fconst 0, 1) := by decide +kernel
theorem dX6_filledOf_14 : decode cX6_filledOf 14 = .ok (.putfield 193, 3) := by decide +kernel
theorem dX6_filledOf_17 : decode cX6_filledOf 17 = .ok (.aload_n 0, 1) := by decide +kernel
theorem dX6_filledOf_18 : decode cX6_filledOf 18 = .ok (.fconst 0, 1) := by decide +kernel
theorem dX6_filledOf_19 : decode cX6_filledOf 19 = .ok (.putfield 197, 3) := by decide +kernel
theorem dX6_filledOf_22 : decode cX6_filledOf 22 = .ok (.aload_n 0, 1) := by decide +kernel
theorem dX6_filledOf_23 : decode cX6_filledOf 23 = .ok (.iconst 0, 1) := by decide +kernel
theorem dX6_filledOf_24 : decode cX6_filledOf 24 = .ok (.putfield 200, 3) := by decide +kernel
theorem dX6_filledOf_27 : decode cX6_filledOf 27 = .ok (.aload_n 0, 1) := by decide +kernel
theorem dX6_filledOf_28 : decode cX6_filledOf 28 = .ok (.iload_n 1, 1) := by decide +kernel
theorem dX6_filledOf_29 : decode cX6_filledOf 29 = .ok (.iload_n 2, 1) := by decide +kernel
theorem dX6_filledOf_30 : decode cX6_filledOf 30 = .ok (.iload_n 3, 1) := by decide +kernel
theorem dX6_filledOf_31 : decode cX6_filledOf 31 = .ok (.iconst 1, 1) := by decide +kernel
theorem dX6_filledOf_32 : decode cX6_filledOf 32 = .ok (.isub, 1) := by decide +kernel
theorem dX6_filledOf_33 : decode cX6_filledOf 33 = .ok (.fload 4, 2) := by decide +kernel
theorem dX6_filledOf_35 : decode cX6_filledOf 35 = .ok (.invokevirtual 204, 3) := by decide +kernel
theorem dX6_filledOf_38 : decode cX6_filledOf 38 = .ok (.aload_n 0, 1) := by decide +kernel
theorem dX6_filledOf_39 : decode cX6_filledOf 39 = .ok (.iload_n 1, 1) := by decide +kernel
theorem dX6_filledOf_40 : decode cX6_filledOf 40 = .ok (.iload_n 2, 1) := by decide +kernel
theorem dX6_filledOf_41 : decode cX6_filledOf 41 = .ok (.iconst 1, 1) := by decide +kernel
theorem dX6_filledOf_42 : decode cX6_filledOf 42 = .ok (.iadd, 1) := by decide +kernel
theorem dX6_filledOf_43 : decode cX6_filledOf 43 = .ok (.iload_n 3, 1) := by decide +kernel
theorem dX6_filledOf_44 : decode cX6_filledOf 44 = .ok (.fload 4, 2) := by decide +kernel
theorem dX6_filledOf_46 : decode cX6_filledOf 46 = .ok (.invokevirtual 204, 3) := by decide +kernel
theorem dX6_filledOf_49 : decode cX6_filledOf 49 = .ok (.aload_n 0, 1) := by decide +kernel
theorem dX6_filledOf_50 : decode cX6_filledOf 50 = .ok (.iload_n 1, 1) := by decide +kernel
theorem dX6_filledOf_51 : decode cX6_filledOf 51 = .ok (.iload_n 2, 1) := by decide +kernel
theorem dX6_filledOf_52 : decode cX6_filledOf 52 = .ok (.iload_n 3, 1) := by decide +kernel
theorem dX6_filledOf_53 : decode cX6_filledOf 53 = .ok (.iconst 1, 1) := by decide +kernel
theorem dX6_filledOf_54 : decode cX6_filledOf 54 = .ok (.iadd, 1) := by decide +kernel
theorem dX6_filledOf_55 : decode cX6_filledOf 55 = .ok (.fload 4, 2) := by decide +kernel
theorem dX6_filledOf_57 : decode cX6_filledOf 57 = .ok (.invokevirtual 204, 3) := by decide +kernel
theorem dX6_filledOf_60 : decode cX6_filledOf 60 = .ok (.aload_n 0, 1) := by decide +kernel
theorem dX6_filledOf_61 : decode cX6_filledOf 61 = .ok (.iload_n 1, 1) := by decide +kernel
theorem dX6_filledOf_62 : decode cX6_filledOf 62 = .ok (.iload_n 2, 1) := by decide +kernel
theorem dX6_filledOf_63 : decode cX6_filledOf 63 = .ok (.iconst 1, 1) := by decide +kernel
theorem dX6_filledOf_64 : decode cX6_filledOf 64 = .ok (.isub, 1) := by decide +kernel
theorem dX6_filledOf_65 : decode cX6_filledOf 65 = .ok (.iload_n 3, 1) := by decide +kernel
theorem dX6_filledOf_66 : decode cX6_filledOf 66 = .ok (.fload 4, 2) := by decide +kernel
theorem dX6_filledOf_68 : decode cX6_filledOf 68 = .ok (.invokevirtual 204, 3) := by decide +kernel
theorem dX6_filledOf_71 : decode cX6_filledOf 71 = .ok (.aload_n 0, 1) := by decide +kernel
theorem dX6_filledOf_72 : decode cX6_filledOf 72 = .ok (.getfield 200, 3) := by decide +kernel
theorem dX6_filledOf_75 : decode cX6_filledOf 75 = .ok (.ifCond .eq 16, 3) := by decide +kernel
theorem dX6_filledOf_78 : decode cX6_filledOf 78 = .ok (.aload_n 0, 1) := by decide +kernel
theorem dX6_filledOf_79 : decode cX6_filledOf 79 = .ok (.getfield 197, 3) := by decide +kernel
theorem dX6_filledOf_82 : decode cX6_filledOf 82 = .ok (.aload_n 0, 1) := by decide +kernel
theorem dX6_filledOf_83 : decode cX6_filledOf 83 = .ok (.getfield 193, 3) := by decide +kernel
theorem dX6_filledOf_86 : decode cX6_filledOf 86 = .ok (.fdiv, 1) := by decide +kernel
theorem dX6_filledOf_87 : decode cX6_filledOf 87 = .ok (.f2i, 1) := by decide +kernel
theorem dX6_filledOf_88 : decode cX6_filledOf 88 = .ok (.goto 6, 3) := by decide +kernel
theorem dX6_filledOf_91 : decode cX6_filledOf 91 = .ok (.sipush (-10001), 3) := by decide +kernel
theorem dX6_filledOf_94 : decode cX6_filledOf 94 = .ok (.ireturn, 1) := by decide +kernel
theorem dX6_cell_0 : decode cX6_cell 0 = .ok (.aload_n 0, 1) := by decide +kernel
theorem dX6_cell_1 : decode cX6_cell 1 = .ok (.iload_n 1, 1) := by decide +kernel
theorem dX6_cell_2 : decode cX6_cell 2 = .ok (.iload_n 2, 1) := by decide +kernel
theorem dX6_cell_3 : decode cX6_cell 3 = .ok (.iload_n 3, 1) := by decide +kernel
theorem dX6_cell_4 : decode cX6_cell 4 = .ok (.invokevirtual 69, 3) := by decide +kernel
theorem dX6_cell_7 : decode cX6_cell 7 = .ok (.ifCond .eq 13, 3) := by decide +kernel
theorem dX6_cell_10 : decode cX6_cell 10 = .ok (.iload 4, 2) := by decide +kernel
theorem dX6_cell_12 : decode cX6_cell 12 = .ok (.iconst 0, 1) := by decide +kernel
theorem dX6_cell_13 : decode cX6_cell 13 = .ok (.iconst 3, 1) := by decide +kernel
theorem dX6_cell_14 : decode cX6_cell 14 = .ok (.invokestatic 60, 3) := by decide +kernel
theorem dX6_cell_17 : decode cX6_cell 17 = .ok (.ifCond .ne 8, 3) := by decide +kernel
theorem dX6_cell_20 : decode cX6_cell 20 = .ok (.aload_n 0, 1) := by decide +kernel
theorem dX6_cell_21 : decode cX6_cell 21 = .ok (.invokevirtual 54, 3) := by decide +kernel
theorem dX6_cell_24 : decode cX6_cell 24 = .ok (.ireturn, 1) := by decide +kernel
theorem dX6_cell_25 : decode cX6_cell 25 = .ok (.aload_n 0, 1) := by decide +kernel
theorem dX6_cell_26 : decode cX6_cell 26 = .ok (.iload_n 1, 1) := by decide +kernel
theorem dX6_cell_27 : decode cX6_cell 27 = .ok (.iload_n 2, 1) := by decide +kernel
theorem dX6_cell_28 : decode cX6_cell 28 = .ok (.iload_n 3, 1) := by decide +kernel
theorem dX6_cell_29 : decode cX6_cell 29 = .ok (.invokestatic 72, 3) := by decide +kernel
theorem dX6_cell_32 : decode cX6_cell 32 = .ok (.invokevirtual 187, 3) := by decide +kernel
theorem dX6_cell_35 : decode cX6_cell 35 = .ok (.iload 4, 2) := by decide +kernel
theorem dX6_cell_37 : decode cX6_cell 37 = .ok (.ifCond .ne 18, 3) := by decide +kernel
theorem dX6_cell_40 : decode cX6_cell 40 = .ok (.aload_n 0, 1) := by decide +kernel
theorem dX6_cell_41 : decode cX6_cell 41 = .ok (.getfield 174, 3) := by decide +kernel
theorem dX6_cell_44 : decode cX6_cell 44 = .ok (.ifCond .ne 7, 3) := by decide +kernel
theorem dX6_cell_47 : decode cX6_cell 47 = .ok (.iconst 1, 1) := by decide +kernel
theorem dX6_cell_48 : decode cX6_cell 48 = .ok (.goto 41, 3) := by decide +kernel
theorem dX6_cell_51 : decode cX6_cell 51 = .ok (.iconst 0, 1) := by decide +kernel
theorem dX6_cell_52 : decode cX6_cell 52 = .ok (.goto 37, 3) := by decide +kernel
theorem dX6_cell_55 : decode cX6_cell 55 = .ok (.iload 4, 2) := by decide +kernel
theorem dX6_cell_57 : decode cX6_cell 57 = .ok (.iconst 3, 1) := by decide +kernel
theorem dX6_cell_58 : decode cX6_cell 58 = .ok (.if_icmp .ne 18, 3) := by decide +kernel
theorem dX6_cell_61 : decode cX6_cell 61 = .ok (.aload_n 0, 1) := by decide +kernel
theorem dX6_cell_62 : decode cX6_cell 62 = .ok (.getfield 174, 3) := by decide +kernel
theorem dX6_cell_65 : decode cX6_cell 65 = .ok (.ifCond .eq 7, 3) := by decide +kernel
theorem dX6_cell_68 : decode cX6_cell 68 = .ok (.iconst 1, 1) := by decide +kernel
theorem dX6_cell_69 : decode cX6_cell 69 = .ok (.goto 20, 3) := by decide +kernel
theorem dX6_cell_72 : decode cX6_cell 72 = .ok (.iconst 0, 1) := by decide +kernel
theorem dX6_cell_73 : decode cX6_cell 73 = .ok (.goto 16, 3) := by decide +kernel
theorem dX6_cell_76 : decode cX6_cell 76 = .ok (.aload_n 0, 1) := by decide +kernel
theorem dX6_cell_77 : decode cX6_cell 77 = .ok (.getfield 174, 3) := by decide +kernel
theorem dX6_cell_80 : decode cX6_cell 80 = .ok (.iconst 4, 1) := by decide +kernel
theorem dX6_cell_81 : decode cX6_cell 81 = .ok (.if_icmp .ne 7, 3) := by decide +kernel
theorem dX6_cell_84 : decode cX6_cell 84 = .ok (.iconst 1, 1) := by decide +kernel
theorem dX6_cell_85 : decode cX6_cell 85 = .ok (.goto 4, 3) := by decide +kernel
theorem dX6_cell_88 : decode cX6_cell 88 = .ok (.iconst 0, 1) := by decide +kernel
theorem dX6_cell_89 : decode cX6_cell 89 = .ok (.istore 5, 2) := by decide +kernel
theorem dX6_cell_91 : decode cX6_cell 91 = .ok (.iload 5, 2) := by decide +kernel
theorem dX6_cell_93 : decode cX6_cell 93 = .ok (.ifCond .ne 8, 3) := by decide +kernel
theorem dX6_cell_96 : decode cX6_cell 96 = .ok (.aload_n 0, 1) := by decide +kernel
theorem dX6_cell_97 : decode cX6_cell 97 = .ok (.invokevirtual 50, 3) := by decide +kernel
theorem dX6_cell_100 : decode cX6_cell 100 = .ok (.ireturn, 1) := by decide +kernel
theorem dX6_cell_101 : decode cX6_cell 101 = .ok (.iload 4, 2) := by decide +kernel
theorem dX6_cell_103 : decode cX6_cell 103 = .ok (.ifCond .ne 10, 3) := by decide +kernel
theorem dX6_cell_106 : decode cX6_cell 106 = .ok (.aload_n 0, 1) := by decide +kernel
theorem dX6_cell_107 : decode cX6_cell 107 = .ok (.getfield 167, 3) := by decide +kernel
theorem dX6_cell_110 : decode cX6_cell 110 = .ok (.goto 36, 3) := by decide +kernel
theorem dX6_cell_113 : decode cX6_cell 113 = .ok (.iload 4, 2) := by decide +kernel
theorem dX6_cell_115 : decode cX6_cell 115 = .ok (.iconst 1, 1) := by decide +kernel
theorem dX6_cell_116 : decode cX6_cell 116 = .ok (.if_icmp .ne 10, 3) := by decide +kernel
theorem dX6_cell_119 : decode cX6_cell 119 = .ok (.aload_n 0, 1) := by decide +kernel
theorem dX6_cell_120 : decode cX6_cell 120 = .ok (.getfield 161, 3) := by decide +kernel
theorem dX6_cell_123 : decode cX6_cell 123 = .ok (.goto 23, 3) := by decide +kernel
theorem dX6_cell_126 : decode cX6_cell 126 = .ok (.iload 4, 2) := by decide +kernel
theorem dX6_cell_128 : decode cX6_cell 128 = .ok (.iconst 2, 1) := by decide +kernel
theorem dX6_cell_129 : decode cX6_cell 129 = .ok (.if_icmp .ne 10, 3) := by decide +kernel
theorem dX6_cell_132 : decode cX6_cell 132 = .ok (.aload_n 0, 1) := by decide +kernel
theorem dX6_cell_133 : decode cX6_cell 133 = .ok (.getfield 164, 3) := by decide +kernel
theorem dX6_cell_136 : decode cX6_cell 136 = .ok (.goto 10, 3) := by decide +kernel
theorem dX6_cell_139 : decode cX6_cell 139 = .ok (.aload_n 0, 1) := by decide +kernel
theorem dX6_cell_140 : decode cX6_cell 140 = .ok (.iload_n 1, 1) := by decide +kernel
theorem dX6_cell_141 : decode cX6_cell 141 = .ok (.iload_n 2, 1) := by decide +kernel
theorem dX6_cell_142 : decode cX6_cell 142 = .ok (.iload_n 3, 1) := by decide +kernel
theorem dX6_cell_143 : decode cX6_cell 143 = .ok (.invokevirtual 208, 3) := by decide +kernel
theorem dX6_cell_146 : decode cX6_cell 146 = .ok (.ireturn, 1) := by decide +kernel
theorem dX6_glow_0 : decode cX6_glow 0 = .ok (.aload_n 0, 1) := by decide +kernel
theorem dX6_glow_1 : decode cX6_glow 1 = .ok (.iload_n 1, 1) := by decide +kernel
theorem dX6_glow_2 : decode cX6_glow 2 = .ok (.iload_n 2, 1) := by decide +kernel
theorem dX6_glow_3 : decode cX6_glow 3 = .ok (.iload_n 3, 1) := by decide +kernel
theorem dX6_glow_4 : decode cX6_glow 4 = .ok (.invokevirtual 69, 3) := by decide +kernel
theorem dX6_glow_7 : decode cX6_glow 7 = .ok (.ifCond .eq 19, 3) := by decide +kernel
theorem dX6_glow_10 : decode cX6_glow 10 = .ok (.aload_n 0, 1) := by decide +kernel
theorem dX6_glow_11 : decode cX6_glow 11 = .ok (.iload_n 1, 1) := by decide +kernel
theorem dX6_glow_12 : decode cX6_glow 12 = .ok (.iload_n 2, 1) := by decide +kernel
theorem dX6_glow_13 : decode cX6_glow 13 = .ok (.iload_n 3, 1) := by decide +kernel
theorem dX6_glow_14 : decode cX6_glow 14 = .ok (.invokestatic 72, 3) := by decide +kernel
theorem dX6_glow_17 : decode cX6_glow 17 = .ok (.invokevirtual 190, 3) := by decide +kernel
theorem dX6_glow_20 : decode cX6_glow 20 = .ok (.invokestatic 146, 3) := by decide +kernel
theorem dX6_glow_23 : decode cX6_glow 23 = .ok (.goto 7, 3) := by decide +kernel
theorem dX6_glow_26 : decode cX6_glow 26 = .ok (.aload_n 0, 1) := by decide +kernel
theorem dX6_glow_27 : decode cX6_glow 27 = .ok (.invokevirtual 54, 3) := by decide +kernel
theorem dX6_glow_30 : decode cX6_glow 30 = .ok (.ireturn, 1) := by decide +kernel
theorem dX6_motionOf_0 : decode cX6_motionOf 0 = .ok (.aload_n 0, 1) := by decide +kernel
theorem dX6_motionOf_1 : decode cX6_motionOf 1 = .ok (.iconst 0, 1) := by decide +kernel
theorem dX6_motionOf_2 : decode cX6_motionOf 2 = .ok (.iload_n 1, 1) := by decide +kernel
theorem dX6_motionOf_3 : decode cX6_motionOf 3 = .ok (.iload_n 2, 1) := by decide +kernel
theorem dX6_motionOf_4 : decode cX6_motionOf 4 = .ok (.invokestatic 72, 3) := by decide +kernel
theorem dX6_motionOf_7 : decode cX6_motionOf 7 = .ok (.invokevirtual 187, 3) := by decide +kernel
theorem dX6_motionOf_10 : decode cX6_motionOf 10 = .ok (.aload_n 0, 1) := by decide +kernel
theorem dX6_motionOf_11 : decode cX6_motionOf 11 = .ok (.getfield 167, 3) := by decide +kernel
theorem dX6_motionOf_14 : decode cX6_motionOf 14 = .ok (.istore_n 3, 1) := by decide +kernel
theorem dX6_motionOf_15 : decode cX6_motionOf 15 = .ok (.aload_n 0, 1) := by decide +kernel
theorem dX6_motionOf_16 : decode cX6_motionOf 16 = .ok (.iconst 1, 1) := by decide +kernel
theorem dX6_motionOf_17 : decode cX6_motionOf 17 = .ok (.iload_n 1, 1) := by decide +kernel
theorem dX6_motionOf_18 : decode cX6_motionOf 18 = .ok (.iload_n 2, 1) := by decide +kernel
theorem dX6_motionOf_19 : decode cX6_motionOf 19 = .ok (.invokestatic 72, 3) := by decide +kernel
theorem dX6_motionOf_22 : decode cX6_motionOf 22 = .ok (.invokevirtual 187, 3) := by decide +kernel
theorem dX6_motionOf_25 : decode cX6_motionOf 25 = .ok (.iload_n 3, 1) := by decide +kernel
theorem dX6_motionOf_26 : decode cX6_motionOf 26 = .ok (.sipush (-10001), 3) := by decide +kernel
theorem dX6_motionOf_29 : decode cX6_motionOf 29 = .ok (.if_icmp .eq 13, 3) := by decide +kernel
theorem dX6_motionOf_32 : decode cX6_motionOf 32 = .ok (.aload_n 0, 1) := by decide +kernel
theorem dX6_motionOf_33 : decode cX6_motionOf 33 = .ok (.getfield 167, 3) := by decide +kernel
theorem dX6_motionOf_36 : decode cX6_motionOf 36 = .ok (.sipush (-10001), 3) := by decide +kernel
theorem dX6_motionOf_39 : decode cX6_motionOf 39 = .ok (.if_icmp .ne 9, 3) := by decide +kernel
theorem dX6_motionOf_42 : decode cX6_motionOf 42 = .ok (.sipush (-10001), 3) := by decide +kernel
theorem dX6_motionOf_45 : decode cX6_motionOf 45 = .ok (.goto 9, 3) := by decide +kernel
theorem dX6_motionOf_48 : decode cX6_motionOf 48 = .ok (.aload_n 0, 1) := by decide +kernel
theorem dX6_motionOf_49 : decode cX6_motionOf 49 = .ok (.getfield 167, 3) := by decide +kernel
theorem dX6_motionOf_52 : decode cX6_motionOf 52 = .ok (.iload_n 3, 1) := by decide +kernel
theorem dX6_motionOf_53 : decode cX6_motionOf 53 = .ok (.isub, 1) := by decide +kernel
theorem dX6_motionOf_54 : decode cX6_motionOf 54 = .ok (.ireturn, 1) := by decide +kernel
theorem dX6_motion_0 : decode cX6_motion 0 = .ok (.aload_n 0, 1) := by decide +kernel
theorem dX6_motion_1 : decode cX6_motion 1 = .ok (.iconst 0, 1) := by decide +kernel
theorem dX6_motion_2 : decode cX6_motion 2 = .ok (.iload_n 1, 1) := by decide +kernel
theorem dX6_motion_3 : decode cX6_motion 3 = .ok (.iload_n 2, 1) := by decide +kernel
theorem dX6_motion_4 : decode cX6_motion 4 = .ok (.invokevirtual 69, 3) := by decide +kernel
theorem dX6_motion_7 : decode cX6_motion 7 = .ok (.ifCond .ne 8, 3) := by decide +kernel
theorem dX6_motion_10 : decode cX6_motion 10 = .ok (.aload_n 0, 1) := by decide +kernel
theorem dX6_motion_11 : decode cX6_motion 11 = .ok (.invokevirtual 54, 3) := by decide +kernel
theorem dX6_motion_14 : decode cX6_motion 14 = .ok (.ireturn, 1) := by decide +kernel
theorem dX6_motion_15 : decode cX6_motion 15 = .ok (.aload_n 0, 1) := by decide +kernel
theorem dX6_motion_16 : decode cX6_motion 16 = .ok (.iload_n 1, 1) := by decide +kernel
theorem dX6_motion_17 : decode cX6_motion 17 = .ok (.iload_n 2, 1) := by decide +kernel
theorem dX6_motion_18 : decode cX6_motion 18 = .ok (.invokevirtual 211, 3) := by decide +kernel
theorem dX6_motion_21 : decode cX6_motion 21 = .ok (.istore_n 3, 1) := by decide +kernel
theorem dX6_motion_22 : decode cX6_motion 22 = .ok (.iload_n 3, 1) := by decide +kernel
theorem dX6_motion_23 : decode cX6_motion 23 = .ok (.sipush (-10001), 3) := by decide +kernel
theorem dX6_motion_26 : decode cX6_motion 26 = .ok (.if_icmp .ne 10, 3) := by decide +kernel
theorem dX6_motion_29 : decode cX6_motion 29 = .ok (.aload_n 0, 1) := by decide +kernel
theorem dX6_motion_30 : decode cX6_motion 30 = .ok (.invokevirtual 50, 3) := by decide +kernel
theorem dX6_motion_33 : decode cX6_motion 33 = .ok (.goto 4, 3) := by decide +kernel
theorem dX6_motion_36 : decode cX6_motion 36 = .ok (.iload_n 3, 1) := by decide +kernel
theorem dX6_motion_37 : decode cX6_motion 37 = .ok (.ireturn, 1) := by decide +kernel
theorem dX6_marks_0 : decode cX6_marks 0 = .ok (.iload_n 1, 1) := by decide +kernel
theorem dX6_marks_1 : decode cX6_marks 1 = .ok (.iconst 0, 1) := by decide +kernel
theorem dX6_marks_2 : decode cX6_marks 2 = .ok (.iconst 1, 1) := by decide +kernel
theorem dX6_marks_3 : decode cX6_marks 3 = .ok (.invokestatic 60, 3) := by decide +kernel
theorem dX6_marks_6 : decode cX6_marks 6 = .ok (.ifCond .eq 12, 3) := by decide +kernel
theorem dX6_marks_9 : decode cX6_marks 9 = .ok (.iload_n 2, 1) := by decide +kernel
theorem dX6_marks_10 : decode cX6_marks 10 = .ok (.iconst 0, 1) := by decide +kernel
theorem dX6_marks_11 : decode cX6_marks 11 = .ok (.iconst 5, 1) := by decide +kernel
theorem dX6_marks_12 : decode cX6_marks 12 = .ok (.invokestatic 60, 3) := by decide +kernel
theorem dX6_marks_15 : decode cX6_marks 15 = .ok (.ifCond .ne 8, 3) := by decide +kernel
theorem dX6_marks_18 : decode cX6_marks 18 = .ok (.aload_n 0, 1) := by decide +kernel
theorem dX6_marks_19 : decode cX6_marks 19 = .ok (.invokevirtual 54, 3) := by decide +kernel
theorem dX6_marks_22 : decode cX6_marks 22 = .ok (.ireturn, 1) := by decide +kernel
theorem dX6_marks_23 : decode cX6_marks 23 = .ok (.aload_n 0, 1) := by decide +kernel
theorem dX6_marks_24 : decode cX6_marks 24 = .ok (.iload_n 1, 1) := by decide +kernel
theorem dX6_marks_25 : decode cX6_marks 25 = .ok (.invokevirtual 214, 3) := by decide +kernel
theorem dX6_marks_28 : decode cX6_marks 28 = .ok (.iconst 0, 1) := by decide +kernel
theorem dX6_marks_29 : decode cX6_marks 29 = .ok (.istore_n 3, 1) := by decide +kernel
theorem dX6_marks_30 : decode cX6_marks 30 = .ok (.iconst 0, 1) := by decide +kernel
theorem dX6_marks_31 : decode cX6_marks 31 = .ok (.istore 4, 2) := by decide +kernel
theorem dX6_marks_33 : decode cX6_marks 33 = .ok (.iload 4, 2) := by decide +kernel
theorem dX6_marks_35 : decode cX6_marks 35 = .ok (.aload_n 0, 1) := by decide +kernel
theorem dX6_marks_36 : decode cX6_marks 36 = .ok (.getfield 7, 3) := by decide +kernel
theorem dX6_marks_39 : decode cX6_marks 39 = .ok (.iconst 1, 1) := by decide +kernel
theorem dX6_marks_40 : decode cX6_marks 40 = .ok (.iaload, 1) := by decide +kernel
theorem dX6_marks_41 : decode cX6_marks 41 = .ok (.if_icmp .ge 53, 3) := by decide +kernel
theorem dX6_marks_44 : decode cX6_marks 44 = .ok (.iconst 0, 1) := by decide +kernel
theorem dX6_marks_45 : decode cX6_marks 45 = .ok (.istore 5, 2) := by decide +kernel
theorem dX6_marks_47 : decode cX6_marks 47 = .ok (.iload 5, 2) := by decide +kernel
theorem dX6_marks_49 : decode cX6_marks 49 = .ok (.aload_n 0, 1) := by decide +kernel
theorem dX6_marks_50 : decode cX6_marks 50 = .ok (.getfield 7, 3) := by decide +kernel
theorem dX6_marks_53 : decode cX6_marks 53 = .ok (.iconst 0, 1) := by decide +kernel
theorem dX6_marks_54 : decode cX6_marks 54 = .ok (.iaload, 1) := by decide +kernel
theorem dX6_marks_55 : decode cX6_marks 55 = .ok (.if_icmp .ge 33, 3) := by decide +kernel
theorem dX6_marks_58 : decode cX6_marks 58 = .ok (.iload_n 3, 1) := by decide +kernel
theorem dX6_marks_59 : decode cX6_marks 59 = .ok (.aload_n 0, 1) := by decide +kernel
theorem dX6_marks_60 : decode cX6_marks 60 = .ok (.getfield 28, 3) := by decide +kernel
theorem dX6_marks_63 : decode cX6_marks 63 = .ok (.iconst 4, 1) := by decide +kernel
theorem dX6_marks_64 : decode cX6_marks 64 = .ok (.iload 4, 2) := by decide +kernel
theorem dX6_marks_66 : decode cX6_marks 66 = .ok (.imul, 1) := by decide +kernel
theorem dX6_marks_67 : decode cX6_marks 67 = .ok (.iload 5, 2) := by decide +kernel
theorem dX6_marks_69 : decode cX6_marks 69 = .ok (.iadd, 1) := by decide +kernel
theorem dX6_marks_70 : decode cX6_marks 70 = .ok (.iaload, 1) := by decide +kernel
theorem dX6_marks_71 : decode cX6_marks 71 = .ok (.iload_n 2, 1) := by decide +kernel
theorem dX6_marks_72 : decode cX6_marks 72 = .ok (.if_icmp .ne 7, 3) := by decide +kernel
theorem dX6_marks_75 : decode cX6_marks 75 = .ok (.iconst 1, 1) := by decide +kernel
theorem dX6_marks_76 : decode cX6_marks 76 = .ok (.goto 4, 3) := by decide +kernel
theorem dX6_marks_79 : decode cX6_marks 79 = .ok (.iconst 0, 1) := by decide +kernel
theorem dX6_marks_80 : decode cX6_marks 80 = .ok (.iadd, 1) := by decide +kernel
theorem dX6_marks_81 : decode cX6_marks 81 = .ok (.istore_n 3, 1) := by decide +kernel
theorem dX6_marks_82 : decode cX6_marks 82 = .ok (.iinc 5 1, 3) := by decide +kernel
theorem dX6_marks_85 : decode cX6_marks 85 = .ok (.goto (-38), 3) := by decide +kernel
theorem dX6_marks_88 : decode cX6_marks 88 = .ok (.iinc 4 1, 3) := by decide +kernel
theorem dX6_marks_91 : decode cX6_marks 91 = .ok (.goto (-58), 3) := by decide +kernel
theorem dX6_marks_94 : decode cX6_marks 94 = .ok (.iload_n 3, 1) := by decide +kernel
theorem dX6_marks_95 : decode cX6_marks 95 = .ok (.ireturn, 1) := by decide +kernel
theorem dX6_moved_0 : decode cX6_moved 0 = .ok (.iconst 0, 1) := by decide +kernel
theorem dX6_moved_1 : decode cX6_moved 1 = .ok (.istore_n 1, 1) := by decide +kernel
theorem dX6_moved_2 : decode cX6_moved 2 = .ok (.iconst 0, 1) := by decide +kernel
theorem dX6_moved_3 : decode cX6_moved 3 = .ok (.istore_n 2, 1) := by decide +kernel
theorem dX6_moved_4 : decode cX6_moved 4 = .ok (.iload_n 2, 1) := by decide +kernel
theorem dX6_moved_5 : decode cX6_moved 5 = .ok (.aload_n 0, 1) := by decide +kernel
theorem dX6_moved_6 : decode cX6_moved 6 = .ok (.getfield 7, 3) := by decide +kernel
theorem dX6_moved_9 : decode cX6_moved 9 = .ok (.iconst 1, 1) := by decide +kernel
theorem dX6_moved_10 : decode cX6_moved 10 = .ok (.iaload, 1) := by decide +kernel
theorem dX6_moved_11 : decode cX6_moved 11 = .ok (.if_icmp .ge 66, 3) := by decide +kernel
theorem dX6_moved_14 : decode cX6_moved 14 = .ok (.iconst 0, 1) := by decide +kernel
theorem dX6_moved_15 : decode cX6_moved 15 = .ok (.istore_n 3, 1) := by decide +kernel
theorem dX6_moved_16 : decode cX6_moved 16 = .ok (.iload_n 3, 1) := by decide +kernel
theorem dX6_moved_17 : decode cX6_moved 17 = .ok (.aload_n 0, 1) := by decide +kernel
theorem dX6_moved_18 : decode cX6_moved 18 = .ok (.getfield 7, 3) := by decide +kernel
theorem dX6_moved_21 : decode cX6_moved 21 = .ok (.iconst 0, 1) := by decide +kernel
theorem dX6_moved_22 : decode cX6_moved 22 = .ok (.iaload, 1) := by decide +kernel
theorem dX6_moved_23 : decode cX6_moved 23 = .ok (.if_icmp .ge 48, 3) := by decide +kernel
theorem dX6_moved_26 : decode cX6_moved 26 = .ok (.aload_n 0, 1) := by decide +kernel
theorem dX6_moved_27 : decode cX6_moved 27 = .ok (.iload_n 3, 1) := by decide +kernel
theorem dX6_moved_28 : decode cX6_moved 28 = .ok (.iload_n 2, 1) := by decide +kernel
theorem dX6_moved_29 : decode cX6_moved 29 = .ok (.invokevirtual 211, 3) := by decide +kernel
theorem dX6_moved_32 : decode cX6_moved 32 = .ok (.istore 4, 2) := by decide +kernel
theorem dX6_moved_34 : decode cX6_moved 34 = .ok (.iload_n 1, 1) := by decide +kernel
theorem dX6_moved_35 : decode cX6_moved 35 = .ok (.iload 4, 2) := by decide +kernel
theorem dX6_moved_37 : decode cX6_moved 37 = .ok (.sipush (-10001), 3) := by decide +kernel
theorem dX6_moved_40 : decode cX6_moved 40 = .ok (.if_icmp .eq 22, 3) := by decide +kernel
theorem dX6_moved_43 : decode cX6_moved 43 = .ok (.iload 4, 2) := by decide +kernel
theorem dX6_moved_45 : decode cX6_moved 45 = .ok (.invokestatic 121, 3) := by decide +kernel
theorem dX6_moved_48 : decode cX6_moved 48 = .ok (.aload_n 0, 1) := by decide +kernel
theorem dX6_moved_49 : decode cX6_moved 49 = .ok (.getfield 7, 3) := by decide +kernel
theorem dX6_moved_52 : decode cX6_moved 52 = .ok (.bipush 10, 2) := by decide +kernel
theorem dX6_moved_54 : decode cX6_moved 54 = .ok (.iaload, 1) := by decide +kernel
theorem dX6_moved_55 : decode cX6_moved 55 = .ok (.if_icmp .le 7, 3) := by decide +kernel
theorem dX6_moved_58 : decode cX6_moved 58 = .ok (.iconst 1, 1) := by decide +kernel
theorem dX6_moved_59 : decode cX6_moved 59 = .ok (.goto 4, 3) := by decide +kernel
theorem dX6_moved_62 : decode cX6_moved 62 = .ok (.iconst 0, 1) := by decide +kernel
theorem dX6_moved_63 : decode cX6_moved 63 = .ok (.iadd, 1) := by decide +kernel
theorem dX6_moved_64 : decode cX6_moved 64 = .ok (.istore_n 1, 1) := by decide +kernel
theorem dX6_moved_65 : decode cX6_moved 65 = .ok (.iinc 3 1, 3) := by decide +kernel
theorem dX6_moved_68 : decode cX6_moved 68 = .ok (.goto (-52), 3) := by decide +kernel
theorem dX6_moved_71 : decode cX6_moved 71 = .ok (.iinc 2 1, 3) := by decide +kernel
theorem dX6_moved_74 : decode cX6_moved 74 = .ok (.goto (-70), 3) := by decide +kernel
theorem dX6_moved_77 : decode cX6_moved 77 = .ok (.iload_n 1, 1) := by decide +kernel
theorem dX6_moved_78 : decode cX6_moved 78 = .ok (.ireturn, 1) := by decide +kernel
theorem dX6_meanOf_0 : decode cX6_meanOf 0 = .ok (.aload_n 0, 1) := by decide +kernel
theorem dX6_meanOf_1 : decode cX6_meanOf 1 = .ok (.iload_n 1, 1) := by decide +kernel
theorem dX6_meanOf_2 : decode cX6_meanOf 2 = .ok (.invokevirtual 214, 3) := by decide +kernel
theorem dX6_meanOf_5 : decode cX6_meanOf 5 = .ok (.iconst 0, 1) := by decide +kernel
theorem dX6_meanOf_6 : decode cX6_meanOf 6 = .ok (.istore_n 2, 1) := by decide +kernel
theorem dX6_meanOf_7 : decode cX6_meanOf 7 = .ok (.iconst 0, 1) := by decide +kernel
theorem dX6_meanOf_8 : decode cX6_meanOf 8 = .ok (.istore_n 3, 1) := by decide +kernel
theorem dX6_meanOf_9 : decode cX6_meanOf 9 = .ok (.iconst 0, 1) := by decide +kernel
theorem dX6_meanOf_10 : decode cX6_meanOf 10 = .ok (.istore 4, 2) := by decide +kernel
theorem dX6_meanOf_12 : decode cX6_meanOf 12 = .ok (.iload 4, 2) := by decide +kernel
theorem dX6_meanOf_14 : decode cX6_meanOf 14 = .ok (.aload_n 0, 1) := by decide +kernel
theorem dX6_meanOf_15 : decode cX6_meanOf 15 = .ok (.getfield 7, 3) := by decide +kernel
theorem dX6_meanOf_18 : decode cX6_meanOf 18 = .ok (.iconst 1, 1) := by decide +kernel
theorem dX6_meanOf_19 : decode cX6_meanOf 19 = .ok (.iaload, 1) := by decide +kernel
theorem dX6_meanOf_20 : decode cX6_meanOf 20 = .ok (.if_icmp .ge 88, 3) := by decide +kernel
theorem dX6_meanOf_23 : decode cX6_meanOf 23 = .ok (.iconst 0, 1) := by decide +kernel
theorem dX6_meanOf_24 : decode cX6_meanOf 24 = .ok (.istore 5, 2) := by decide +kernel
theorem dX6_meanOf_26 : decode cX6_meanOf 26 = .ok (.iload 5, 2) := by decide +kernel
theorem dX6_meanOf_28 : decode cX6_meanOf 28 = .ok (.aload_n 0, 1) := by decide +kernel
theorem dX6_meanOf_29 : decode cX6_meanOf 29 = .ok (.getfield 7, 3) := by decide +kernel
theorem dX6_meanOf_32 : decode cX6_meanOf 32 = .ok (.iconst 0, 1) := by decide +kernel
theorem dX6_meanOf_33 : decode cX6_meanOf 33 = .ok (.iaload, 1) := by decide +kernel
theorem dX6_meanOf_34 : decode cX6_meanOf 34 = .ok (.if_icmp .ge 68, 3) := by decide +kernel
theorem dX6_meanOf_37 : decode cX6_meanOf 37 = .ok (.aload_n 0, 1) := by decide +kernel
theorem dX6_meanOf_38 : decode cX6_meanOf 38 = .ok (.getfield 28, 3) := by decide +kernel
theorem dX6_meanOf_41 : decode cX6_meanOf 41 = .ok (.iconst 4, 1) := by decide +kernel
theorem dX6_meanOf_42 : decode cX6_meanOf 42 = .ok (.iload 4, 2) := by decide +kernel
theorem dX6_meanOf_44 : decode cX6_meanOf 44 = .ok (.imul, 1) := by decide +kernel
theorem dX6_meanOf_45 : decode cX6_meanOf 45 = .ok (.iload 5, 2) := by decide +kernel
theorem dX6_meanOf_47 : decode cX6_meanOf 47 = .ok (.iadd, 1) := by decide +kernel
theorem dX6_meanOf_48 : decode cX6_meanOf 48 = .ok (.iaload, 1) := by decide +kernel
theorem dX6_meanOf_49 : decode cX6_meanOf 49 = .ok (.ifCond .ne 7, 3) := by decide +kernel
theorem dX6_meanOf_52 : decode cX6_meanOf 52 = .ok (.iconst 1, 1) := by decide +kernel
theorem dX6_meanOf_53 : decode cX6_meanOf 53 = .ok (.goto 4, 3) := by decide +kernel
theorem dX6_meanOf_56 : decode cX6_meanOf 56 = .ok (.iconst 0, 1) := by decide +kernel
theorem dX6_meanOf_57 : decode cX6_meanOf 57 = .ok (.istore 6, 2) := by decide +kernel
theorem dX6_meanOf_59 : decode cX6_meanOf 59 = .ok (.iload_n 2, 1) := by decide +kernel
theorem dX6_meanOf_60 : decode cX6_meanOf 60 = .ok (.iload 6, 2) := by decide +kernel
theorem dX6_meanOf_62 : decode cX6_meanOf 62 = .ok (.ifCond .eq 18, 3) := by decide +kernel
theorem dX6_meanOf_65 : decode cX6_meanOf 65 = .ok (.aload_n 0, 1) := by decide +kernel
theorem dX6_meanOf_66 : decode cX6_meanOf 66 = .ok (.getfield 31, 3) := by decide +kernel
theorem dX6_meanOf_69 : decode cX6_meanOf 69 = .ok (.iconst 4, 1) := by decide +kernel
theorem dX6_meanOf_70 : decode cX6_meanOf 70 = .ok (.iload 4, 2) := by decide +kernel
theorem dX6_meanOf_72 : decode cX6_meanOf 72 = .ok (.imul, 1) := by decide +kernel
theorem dX6_meanOf_73 : decode cX6_meanOf 73 = .ok (.iload 5, 2) := by decide +kernel
theorem dX6_meanOf_75 : decode cX6_meanOf 75 = .ok (.iadd, 1) := by decide +kernel
theorem dX6_meanOf_76 : decode cX6_meanOf 76 = .ok (.iaload, 1) := by decide +kernel
theorem dX6_meanOf_77 : decode cX6_meanOf 77 = .ok (.goto 4, 3) := by decide +kernel
theorem dX6_meanOf_80 : decode cX6_meanOf 80 = .ok (.iconst 0, 1) := by decide +kernel
theorem dX6_meanOf_81 : decode cX6_meanOf 81 = .ok (.iadd, 1) := by decide +kernel
theorem dX6_meanOf_82 : decode cX6_meanOf 82 = .ok (.istore_n 2, 1) := by decide +kernel
theorem dX6_meanOf_83 : decode cX6_meanOf 83 = .ok (.iload_n 3, 1) := by decide +kernel
theorem dX6_meanOf_84 : decode cX6_meanOf 84 = .ok (.iload 6, 2) := by decide +kernel
theorem dX6_meanOf_86 : decode cX6_meanOf 86 = .ok (.ifCond .eq 7, 3) := by decide +kernel
theorem dX6_meanOf_89 : decode cX6_meanOf 89 = .ok (.iconst 1, 1) := by decide +kernel
theorem dX6_meanOf_90 : decode cX6_meanOf 90 = .ok (.goto 4, 3) := by decide +kernel
theorem dX6_meanOf_93 : decode cX6_meanOf 93 = .ok (.iconst 0, 1) := by decide +kernel
theorem dX6_meanOf_94 : decode cX6_meanOf 94 = .ok (.iadd, 1) := by decide +kernel
theorem dX6_meanOf_95 : decode cX6_meanOf 95 = .ok (.istore_n 3, 1) := by decide +kernel
theorem dX6_meanOf_96 : decode cX6_meanOf 96 = .ok (.iinc 5 1, 3) := by decide +kernel
theorem dX6_meanOf_99 : decode cX6_meanOf 99 = .ok (.goto (-73), 3) := by decide +kernel
theorem dX6_meanOf_102 : decode cX6_meanOf 102 = .ok (.iinc 4 1, 3) := by decide +kernel
theorem dX6_meanOf_105 : decode cX6_meanOf 105 = .ok (.goto (-93), 3) := by decide +kernel
theorem dX6_meanOf_108 : decode cX6_meanOf 108 = .ok (.iload_n 3, 1) := by decide +kernel
theorem dX6_meanOf_109 : decode cX6_meanOf 109 = .ok (.ifCond .ne 7, 3) := by decide +kernel
theorem dX6_meanOf_112 : decode cX6_meanOf 112 = .ok (.dconst 0, 1) := by decide +kernel
theorem dX6_meanOf_113 : decode cX6_meanOf 113 = .ok (.goto 8, 3) := by decide +kernel
theorem dX6_meanOf_116 : decode cX6_meanOf 116 = .ok (.iload_n 2, 1) := by decide +kernel
theorem dX6_meanOf_117 : decode cX6_meanOf 117 = .ok (.i2d, 1) := by decide +kernel
theorem dX6_meanOf_118 : decode cX6_meanOf 118 = .ok (.iload_n 3, 1) := by decide +kernel
theorem dX6_meanOf_119 : decode cX6_meanOf 119 = .ok (.i2d, 1) := by decide +kernel
theorem dX6_meanOf_120 : decode cX6_meanOf 120 = .ok (.ddiv, 1) := by decide +kernel
theorem dX6_meanOf_121 : decode cX6_meanOf 121 = .ok (.invokestatic 217, 3) := by decide +kernel
theorem dX6_meanOf_124 : decode cX6_meanOf 124 = .ok (.lreturn, 1) := by decide +kernel
theorem dX6_mean_0 : decode cX6_mean 0 = .ok (.iload_n 1, 1) := by decide +kernel
theorem dX6_mean_1 : decode cX6_mean 1 = .ok (.iconst 0, 1) := by decide +kernel
theorem dX6_mean_2 : decode cX6_mean 2 = .ok (.iconst 1, 1) := by decide +kernel
theorem dX6_mean_3 : decode cX6_mean 3 = .ok (.invokestatic 60, 3) := by decide +kernel
theorem dX6_mean_6 : decode cX6_mean 6 = .ok (.ifCond .eq 11, 3) := by decide +kernel
theorem dX6_mean_9 : decode cX6_mean 9 = .ok (.aload_n 0, 1) := by decide +kernel
theorem dX6_mean_10 : decode cX6_mean 10 = .ok (.iload_n 1, 1) := by decide +kernel
theorem dX6_mean_11 : decode cX6_mean 11 = .ok (.invokevirtual 223, 3) := by decide +kernel
theorem dX6_mean_14 : decode cX6_mean 14 = .ok (.goto 8, 3) := by decide +kernel
theorem dX6_mean_17 : decode cX6_mean 17 = .ok (.aload_n 0, 1) := by decide +kernel
theorem dX6_mean_18 : decode cX6_mean 18 = .ok (.invokevirtual 54, 3) := by decide +kernel
theorem dX6_mean_21 : decode cX6_mean 21 = .ok (.i2l, 1) := by decide +kernel
theorem dX6_mean_22 : decode cX6_mean 22 = .ok (.lreturn, 1) := by decide +kernel
theorem dX6_told_0 : decode cX6_told 0 = .ok (.iload_n 1, 1) := by decide +kernel
theorem dX6_told_1 : decode cX6_told 1 = .ok (.iconst 0, 1) := by decide +kernel
theorem dX6_told_2 : decode cX6_told 2 = .ok (.bipush 10, 2) := by decide +kernel
theorem dX6_told_4 : decode cX6_told 4 = .ok (.invokestatic 60, 3) := by decide +kernel
theorem dX6_told_7 : decode cX6_told 7 = .ok (.ifCond .eq 12, 3) := by decide +kernel
theorem dX6_told_10 : decode cX6_told 10 = .ok (.aload_n 0, 1) := by decide +kernel
theorem dX6_told_11 : decode cX6_told 11 = .ok (.getfield 7, 3) := by decide +kernel
theorem dX6_told_14 : decode cX6_told 14 = .ok (.iload_n 1, 1) := by decide +kernel
theorem dX6_told_15 : decode cX6_told 15 = .ok (.iaload, 1) := by decide +kernel
theorem dX6_told_16 : decode cX6_told 16 = .ok (.goto 7, 3) := by decide +kernel
theorem dX6_told_19 : decode cX6_told 19 = .ok (.aload_n 0, 1) := by decide +kernel
theorem dX6_told_20 : decode cX6_told 20 = .ok (.invokevirtual 54, 3) := by decide +kernel
theorem dX6_told_23 : decode cX6_told 23 = .ok (.ireturn, 1) := by decide +kernel
theorem dX6_type_0 : decode cX6_type 0 = .ok (.iload_n 1, 1) := by decide +kernel
theorem dX6_type_1 : decode cX6_type 1 = .ok (.iconst 0, 1) := by decide +kernel
theorem dX6_type_2 : decode cX6_type 2 = .ok (.bipush 127, 2) := by decide +kernel
theorem dX6_type_4 : decode cX6_type 4 = .ok (.invokestatic 60, 3) := by decide +kernel
theorem dX6_type_7 : decode cX6_type 7 = .ok (.ifCond .ne 8, 3) := by decide +kernel
theorem dX6_type_10 : decode cX6_type 10 = .ok (.aload_n 0, 1) := by decide +kernel
theorem dX6_type_11 : decode cX6_type 11 = .ok (.invokevirtual 54, 3) := by decide +kernel
theorem dX6_type_14 : decode cX6_type 14 = .ok (.ireturn, 1) := by decide +kernel
theorem dX6_type_15 : decode cX6_type 15 = .ok (.aload_n 0, 1) := by decide +kernel
theorem dX6_type_16 : decode cX6_type 16 = .ok (.getfield 227, 3) := by decide +kernel
theorem dX6_type_19 : decode cX6_type 19 = .ok (.sipush 150, 3) := by decide +kernel
theorem dX6_type_22 : decode cX6_type 22 = .ok (.if_icmp .ne 17, 3) := by decide +kernel
theorem dX6_type_25 : decode cX6_type 25 = .ok (.aload_n 0, 1) := by decide +kernel
theorem dX6_type_26 : decode cX6_type 26 = .ok (.getfield 19, 3) := by decide +kernel
theorem dX6_type_29 : decode cX6_type 29 = .ok (.iconst 2, 1) := by decide +kernel
theorem dX6_type_30 : decode cX6_type 30 = .ok (.dup2, 1) := by decide +kernel
theorem dX6_type_31 : decode cX6_type 31 = .ok (.iaload, 1) := by decide +kernel
theorem dX6_type_32 : decode cX6_type 32 = .ok (.iconst 1, 1) := by decide +kernel
theorem dX6_type_33 : decode cX6_type 33 = .ok (.iadd, 1) := by decide +kernel
theorem dX6_type_34 : decode cX6_type 34 = .ok (.iastore, 1) := by decide +kernel
theorem dX6_type_35 : decode cX6_type 35 = .ok (.sipush (-10004), 3) := by decide +kernel
theorem dX6_type_38 : decode cX6_type 38 = .ok (.ireturn, 1) := by decide +kernel
theorem dX6_type_39 : decode cX6_type 39 = .ok (.aload_n 0, 1) := by decide +kernel
theorem dX6_type_40 : decode cX6_type 40 = .ok (.getfield 22, 3) := by decide +kernel
theorem dX6_type_43 : decode cX6_type 43 = .ok (.aload_n 0, 1) := by decide +kernel
theorem dX6_type_44 : decode cX6_type 44 = .ok (.getfield 227, 3) := by decide +kernel
theorem dX6_type_47 : decode cX6_type 47 = .ok (.iload_n 1, 1) := by decide +kernel
theorem dX6_type_48 : decode cX6_type 48 = .ok (.iastore, 1) := by decide +kernel
theorem dX6_type_49 : decode cX6_type 49 = .ok (.aload_n 0, 1) := by decide +kernel
theorem dX6_type_50 : decode cX6_type 50 = .ok (.dup, 1) := by decide +kernel
theorem dX6_type_51 : decode cX6_type 51 = .ok (.getfield 227, 3) := by decide +kernel
theorem dX6_type_54 : decode cX6_type 54 = .ok (.iconst 1, 1) := by decide +kernel
theorem dX6_type_55 : decode cX6_type 55 = .ok (.iadd, 1) := by decide +kernel
theorem dX6_type_56 : decode cX6_type 56 = .ok (.putfield 227, 3) := by decide +kernel
theorem dX6_type_59 : decode cX6_type 59 = .ok (.aload_n 0, 1) := by decide +kernel
theorem dX6_type_60 : decode cX6_type 60 = .ok (.getfield 227, 3) := by decide +kernel
theorem dX6_type_63 : decode cX6_type 63 = .ok (.ireturn, 1) := by decide +kernel
theorem dX6_clear_0 : decode cX6_clear 0 = .ok (.aload_n 0, 1) := by decide +kernel
theorem dX6_clear_1 : decode cX6_clear 1 = .ok (.getfield 227, 3) := by decide +kernel
theorem dX6_clear_4 : decode cX6_clear 4 = .ok (.istore_n 1, 1) := by decide +kernel
theorem dX6_clear_5 : decode cX6_clear 5 = .ok (.aload_n 0, 1) := by decide +kernel
theorem dX6_clear_6 : decode cX6_clear 6 = .ok (.iconst 0, 1) := by decide +kernel
theorem dX6_clear_7 : decode cX6_clear 7 = .ok (.putfield 227, 3) := by decide +kernel
theorem dX6_clear_10 : decode cX6_clear 10 = .ok (.iload_n 1, 1) := by decide +kernel
theorem dX6_clear_11 : decode cX6_clear 11 = .ok (.ireturn, 1) := by decide +kernel
theorem dX6_isAt_0 : decode cX6_isAt 0 = .ok (.aload_n 0, 1) := by decide +kernel
theorem dX6_isAt_1 : decode cX6_isAt 1 = .ok (.getfield 230, 3) := by decide +kernel
theorem dX6_isAt_4 : decode cX6_isAt 4 = .ok (.aload_n 0, 1) := by decide +kernel
theorem dX6_isAt_5 : decode cX6_isAt 5 = .ok (.getfield 227, 3) := by decide +kernel
theorem dX6_isAt_8 : decode cX6_isAt 8 = .ok (.if_icmp .ge 24, 3) := by decide +kernel
theorem dX6_isAt_11 : decode cX6_isAt 11 = .ok (.aload_n 0, 1) := by decide +kernel
theorem dX6_isAt_12 : decode cX6_isAt 12 = .ok (.getfield 22, 3) := by decide +kernel
theorem dX6_isAt_15 : decode cX6_isAt 15 = .ok (.aload_n 0, 1) := by decide +kernel
theorem dX6_isAt_16 : decode cX6_isAt 16 = .ok (.getfield 230, 3) := by decide +kernel
theorem dX6_isAt_19 : decode cX6_isAt 19 = .ok (.iaload, 1) := by decide +kernel
theorem dX6_isAt_20 : decode cX6_isAt 20 = .ok (.iload_n 1, 1) := by decide +kernel
theorem dX6_isAt_21 : decode cX6_isAt 21 = .ok (.iload_n 2, 1) := by decide +kernel
theorem dX6_isAt_22 : decode cX6_isAt 22 = .ok (.invokestatic 60, 3) := by decide +kernel
theorem dX6_isAt_25 : decode cX6_isAt 25 = .ok (.ifCond .eq 7, 3) := by decide +kernel
theorem dX6_isAt_28 : decode cX6_isAt 28 = .ok (.iconst 1, 1) := by decide +kernel
theorem dX6_isAt_29 : decode cX6_isAt 29 = .ok (.goto 4, 3) := by decide +kernel
theorem dX6_isAt_32 : decode cX6_isAt 32 = .ok (.iconst 0, 1) := by decide +kernel
theorem dX6_isAt_33 : decode cX6_isAt 33 = .ok (.ireturn, 1) := by decide +kernel
theorem dX6_blanks_0 : decode cX6_blanks 0 = .ok (.aload_n 0, 1) := by decide +kernel
theorem dX6_blanks_1 : decode cX6_blanks 1 = .ok (.bipush 32, 2) := by decide +kernel
theorem dX6_blanks_3 : decode cX6_blanks 3 = .ok (.bipush 32, 2) := by decide +kernel
theorem dX6_blanks_5 : decode cX6_blanks 5 = .ok (.invokevirtual 233, 3) := by decide +kernel
theorem dX6_blanks_8 : decode cX6_blanks 8 = .ok (.ifCond .eq 16, 3) := by decide +kernel
theorem dX6_blanks_11 : decode cX6_blanks 11 = .ok (.aload_n 0, 1) := by decide +kernel
theorem dX6_blanks_12 : decode cX6_blanks 12 = .ok (.dup, 1) := by decide +kernel
theorem dX6_blanks_13 : decode cX6_blanks 13 = .ok (.getfield 230, 3) := by decide +kernel
theorem dX6_blanks_16 : decode cX6_blanks 16 = .ok (.iconst 1, 1) := by decide +kernel
theorem dX6_blanks_17 : decode cX6_blanks 17 = .ok (.iadd, 1) := by decide +kernel
theorem dX6_blanks_18 : decode cX6_blanks 18 = .ok (.putfield 230, 3) := by decide +kernel
theorem dX6_blanks_21 : decode cX6_blanks 21 = .ok (.goto (-21), 3) := by decide +kernel
theorem dX6_blanks_24 : decode cX6_blanks 24 = .ok (.return_, 1) := by decide +kernel
theorem dX6_fails_0 : decode cX6_fails 0 = .ok (.aload_n 0, 1) := by decide +kernel
theorem dX6_fails_1 : decode cX6_fails 1 = .ok (.iload_n 1, 1) := by decide +kernel
theorem dX6_fails_2 : decode cX6_fails 2 = .ok (.putfield 236, 3) := by decide +kernel
theorem dX6_fails_5 : decode cX6_fails 5 = .ok (.iconst 0, 1) := by decide +kernel
theorem dX6_fails_6 : decode cX6_fails 6 = .ok (.ireturn, 1) := by decide +kernel
theorem dX6_manyOf_0 : decode cX6_manyOf 0 = .ok (.iload_n 0, 1) := by decide +kernel
theorem dX6_manyOf_1 : decode cX6_manyOf 1 = .ok (.tableswitch 103 99 118 #[101, 103, 97, 103, 95, 103, 103, 103, 103, 99, 103, 103, 103, 103, 103, 103, 95, 103, 103, 95], 95) := by decide +kernel
theorem dX6_manyOf_96 : decode cX6_manyOf 96 = .ok (.iconst 2, 1) := by decide +kernel
theorem dX6_manyOf_97 : decode cX6_manyOf 97 = .ok (.ireturn, 1) := by decide +kernel
theorem dX6_manyOf_98 : decode cX6_manyOf 98 = .ok (.iconst 5, 1) := by decide +kernel
theorem dX6_manyOf_99 : decode cX6_manyOf 99 = .ok (.ireturn, 1) := by decide +kernel
theorem dX6_manyOf_100 : decode cX6_manyOf 100 = .ok (.iconst 4, 1) := by decide +kernel
theorem dX6_manyOf_101 : decode cX6_manyOf 101 = .ok (.ireturn, 1) := by decide +kernel
theorem dX6_manyOf_102 : decode cX6_manyOf 102 = .ok (.iconst 3, 1) := by decide +kernel
theorem dX6_manyOf_103 : decode cX6_manyOf 103 = .ok (.ireturn, 1) := by decide +kernel
theorem dX6_manyOf_104 : decode cX6_manyOf 104 = .ok (.sipush (-10001), 3) := by decide +kernel
theorem dX6_manyOf_107 : decode cX6_manyOf 107 = .ok (.ireturn, 1) := by decide +kernel
theorem dX6_takesNumber_0 : decode cX6_takesNumber 0 = .ok (.aload_n 0, 1) := by decide +kernel
theorem dX6_takesNumber_1 : decode cX6_takesNumber 1 = .ok (.invokevirtual 239, 3) := by decide +kernel
theorem dX6_takesNumber_4 : decode cX6_takesNumber 4 = .ok (.aload_n 0, 1) := by decide +kernel
theorem dX6_takesNumber_5 : decode cX6_takesNumber 5 = .ok (.getfield 230, 3) := by decide +kernel
theorem dX6_takesNumber_8 : decode cX6_takesNumber 8 = .ok (.istore_n 2, 1) := by decide +kernel
theorem dX6_takesNumber_9 : decode cX6_takesNumber 9 = .ok (.iconst 0, 1) := by decide +kernel
theorem dX6_takesNumber_10 : decode cX6_takesNumber 10 = .ok (.istore_n 3, 1) := by decide +kernel
theorem dX6_takesNumber_11 : decode cX6_takesNumber 11 = .ok (.aload_n 0, 1) := by decide +kernel
theorem dX6_takesNumber_12 : decode cX6_takesNumber 12 = .ok (.bipush 48, 2) := by decide +kernel
theorem dX6_takesNumber_14 : decode cX6_takesNumber 14 = .ok (.bipush 57, 2) := by decide +kernel
theorem dX6_takesNumber_16 : decode cX6_takesNumber 16 = .ok (.invokevirtual 233, 3) := by decide +kernel
theorem dX6_takesNumber_19 : decode cX6_takesNumber 19 = .ok (.ifCond .eq 53, 3) := by decide +kernel
theorem dX6_takesNumber_22 : decode cX6_takesNumber 22 = .ok (.aload_n 0, 1) := by decide +kernel
theorem dX6_takesNumber_23 : decode cX6_takesNumber 23 = .ok (.getfield 230, 3) := by decide +kernel
theorem dX6_takesNumber_26 : decode cX6_takesNumber 26 = .ok (.iload_n 2, 1) := by decide +kernel
theorem dX6_takesNumber_27 : decode cX6_takesNumber 27 = .ok (.iconst 4, 1) := by decide +kernel
theorem dX6_takesNumber_28 : decode cX6_takesNumber 28 = .ok (.iadd, 1) := by decide +kernel
theorem dX6_takesNumber_29 : decode cX6_takesNumber 29 = .ok (.if_icmp .ne 12, 3) := by decide +kernel
theorem dX6_takesNumber_32 : decode cX6_takesNumber 32 = .ok (.aload_n 0, 1) := by decide +kernel
theorem dX6_takesNumber_33 : decode cX6_takesNumber 33 = .ok (.aload_n 0, 1) := by decide +kernel
theorem dX6_takesNumber_34 : decode cX6_takesNumber 34 = .ok (.getfield 230, 3) := by decide +kernel
theorem dX6_takesNumber_37 : decode cX6_takesNumber 37 = .ok (.invokevirtual 242, 3) := by decide +kernel
theorem dX6_takesNumber_40 : decode cX6_takesNumber 40 = .ok (.ireturn, 1) := by decide +kernel
theorem dX6_takesNumber_41 : decode cX6_takesNumber 41 = .ok (.bipush 10, 2) := by decide +kernel
theorem dX6_takesNumber_43 : decode cX6_takesNumber 43 = .ok (.iload_n 3, 1) := by decide +kernel
theorem dX6_takesNumber_44 : decode cX6_takesNumber 44 = .ok (.imul, 1) := by decide +kernel
theorem dX6_takesNumber_45 : decode cX6_takesNumber 45 = .ok (.aload_n 0, 1) := by decide +kernel
theorem dX6_takesNumber_46 : decode cX6_takesNumber 46 = .ok (.getfield 22, 3) := by decide +kernel
theorem dX6_takesNumber_49 : decode cX6_takesNumber 49 = .ok (.aload_n 0, 1) := by decide +kernel
theorem dX6_takesNumber_50 : decode cX6_takesNumber 50 = .ok (.getfield 230, 3) := by decide +kernel
theorem dX6_takesNumber_53 : decode cX6_takesNumber 53 = .ok (.iaload, 1) := by decide +kernel
theorem dX6_takesNumber_54 : decode cX6_takesNumber 54 = .ok (.iadd, 1) := by decide +kernel
theorem dX6_takesNumber_55 : decode cX6_takesNumber 55 = .ok (.bipush 48, 2) := by decide +kernel
theorem dX6_takesNumber_57 : decode cX6_takesNumber 57 = .ok (.isub, 1) := by decide +kernel
theorem dX6_takesNumber_58 : decode cX6_takesNumber 58 = .ok (.istore_n 3, 1) := by decide +kernel
theorem dX6_takesNumber_59 : decode cX6_takesNumber 59 = .ok (.aload_n 0, 1) := by decide +kernel
theorem dX6_takesNumber_60 : decode cX6_takesNumber 60 = .ok (.dup, 1) := by decide +kernel
theorem dX6_takesNumber_61 : decode cX6_takesNumber 61 = .ok (.getfield 230, 3) := by decide +kernel
theorem dX6_takesNumber_64 : decode cX6_takesNumber 64 = .ok (.iconst 1, 1) := by decide +kernel
theorem dX6_takesNumber_65 : decode cX6_takesNumber 65 = .ok (.iadd, 1) := by decide +kernel
theorem dX6_takesNumber_66 : decode cX6_takesNumber 66 = .ok (.putfield 230, 3) := by decide +kernel
theorem dX6_takesNumber_69 : decode cX6_takesNumber 69 = .ok (.goto (-58), 3) := by decide +kernel
theorem dX6_takesNumber_72 : decode cX6_takesNumber 72 = .ok (.aload_n 0, 1) := by decide +kernel
theorem dX6_takesNumber_73 : decode cX6_takesNumber 73 = .ok (.getfield 43, 3) := by decide +kernel
theorem dX6_takesNumber_76 : decode cX6_takesNumber 76 = .ok (.iload_n 1, 1) := by decide +kernel
theorem dX6_takesNumber_77 : decode cX6_takesNumber 77 = .ok (.iload_n 3, 1) := by decide +kernel
theorem dX6_takesNumber_78 : decode cX6_takesNumber 78 = .ok (.iastore, 1) := by decide +kernel
theorem dX6_takesNumber_79 : decode cX6_takesNumber 79 = .ok (.aload_n 0, 1) := by decide +kernel
theorem dX6_takesNumber_80 : decode cX6_takesNumber 80 = .ok (.getfield 230, 3) := by decide +kernel
theorem dX6_takesNumber_83 : decode cX6_takesNumber 83 = .ok (.iload_n 2, 1) := by decide +kernel
theorem dX6_takesNumber_84 : decode cX6_takesNumber 84 = .ok (.if_icmp .gt 14, 3) := by decide +kernel
theorem dX6_takesNumber_87 : decode cX6_takesNumber 87 = .ok (.aload_n 0, 1) := by decide +kernel
theorem dX6_takesNumber_88 : decode cX6_takesNumber 88 = .ok (.aload_n 0, 1) := by decide +kernel
theorem dX6_takesNumber_89 : decode cX6_takesNumber 89 = .ok (.getfield 230, 3) := by decide +kernel
theorem dX6_takesNumber_92 : decode cX6_takesNumber 92 = .ok (.invokevirtual 242, 3) := by decide +kernel
theorem dX6_takesNumber_95 : decode cX6_takesNumber 95 = .ok (.ifCond .eq 7, 3) := by decide +kernel
theorem dX6_takesNumber_98 : decode cX6_takesNumber 98 = .ok (.iconst 1, 1) := by decide +kernel
theorem dX6_takesNumber_99 : decode cX6_takesNumber 99 = .ok (.goto 4, 3) := by decide +kernel
theorem dX6_takesNumber_102 : decode cX6_takesNumber 102 = .ok (.iconst 0, 1) := by decide +kernel
theorem dX6_takesNumber_103 : decode cX6_takesNumber 103 = .ok (.ireturn, 1) := by decide +kernel
theorem dX6_takesOrder_0 : decode cX6_takesOrder 0 = .ok (.aload_n 0, 1) := by decide +kernel
theorem dX6_takesOrder_1 : decode cX6_takesOrder 1 = .ok (.getfield 22, 3) := by decide +kernel
theorem dX6_takesOrder_4 : decode cX6_takesOrder 4 = .ok (.aload_n 0, 1) := by decide +kernel
theorem dX6_takesOrder_5 : decode cX6_takesOrder 5 = .ok (.getfield 230, 3) := by decide +kernel
theorem dX6_takesOrder_8 : decode cX6_takesOrder 8 = .ok (.iaload, 1) := by decide +kernel
theorem dX6_takesOrder_9 : decode cX6_takesOrder 9 = .ok (.istore_n 1, 1) := by decide +kernel
theorem dX6_takesOrder_10 : decode cX6_takesOrder 10 = .ok (.iload_n 1, 1) := by decide +kernel
theorem dX6_takesOrder_11 : decode cX6_takesOrder 11 = .ok (.invokestatic 245, 3) := by decide +kernel
theorem dX6_takesOrder_14 : decode cX6_takesOrder 14 = .ok (.istore_n 2, 1) := by decide +kernel
theorem dX6_takesOrder_15 : decode cX6_takesOrder 15 = .ok (.iload_n 2, 1) := by decide +kernel
theorem dX6_takesOrder_16 : decode cX6_takesOrder 16 = .ok (.sipush (-10001), 3) := by decide +kernel
theorem dX6_takesOrder_19 : decode cX6_takesOrder 19 = .ok (.if_icmp .ne 12, 3) := by decide +kernel
theorem dX6_takesOrder_22 : decode cX6_takesOrder 22 = .ok (.aload_n 0, 1) := by decide +kernel
theorem dX6_takesOrder_23 : decode cX6_takesOrder 23 = .ok (.aload_n 0, 1) := by decide +kernel
theorem dX6_takesOrder_24 : decode cX6_takesOrder 24 = .ok (.getfield 230, 3) := by decide +kernel
theorem dX6_takesOrder_27 : decode cX6_takesOrder 27 = .ok (.invokevirtual 242, 3) := by decide +kernel
theorem dX6_takesOrder_30 : decode cX6_takesOrder 30 = .ok (.ireturn, 1) := by decide +kernel
theorem dX6_takesOrder_31 : decode cX6_takesOrder 31 = .ok (.aload_n 0, 1) := by decide +kernel
theorem dX6_takesOrder_32 : decode cX6_takesOrder 32 = .ok (.getfield 40, 3) := by decide +kernel
theorem dX6_takesOrder_35 : decode cX6_takesOrder 35 = .ok (.aload_n 0, 1) := by decide +kernel
theorem dX6_takesOrder_36 : decode cX6_takesOrder 36 = .ok (.getfield 248, 3) := by decide +kernel
theorem dX6_takesOrder_39 : decode cX6_takesOrder 39 = .ok (.iload_n 1, 1) := by decide +kernel
theorem dX6_takesOrder_40 : decode cX6_takesOrder 40 = .ok (.iastore, 1) := by decide +kernel
theorem dX6_takesOrder_41 : decode cX6_takesOrder 41 = .ok (.aload_n 0, 1) := by decide +kernel
theorem dX6_takesOrder_42 : decode cX6_takesOrder 42 = .ok (.dup, 1) := by decide +kernel
theorem dX6_takesOrder_43 : decode cX6_takesOrder 43 = .ok (.getfield 230, 3) := by decide +kernel
theorem dX6_takesOrder_46 : decode cX6_takesOrder 46 = .ok (.iconst 1, 1) := by decide +kernel
theorem dX6_takesOrder_47 : decode cX6_takesOrder 47 = .ok (.iadd, 1) := by decide +kernel
theorem dX6_takesOrder_48 : decode cX6_takesOrder 48 = .ok (.putfield 230, 3) := by decide +kernel
theorem dX6_takesOrder_51 : decode cX6_takesOrder 51 = .ok (.iconst 0, 1) := by decide +kernel
theorem dX6_takesOrder_52 : decode cX6_takesOrder 52 = .ok (.istore_n 3, 1) := by decide +kernel
theorem dX6_takesOrder_53 : decode cX6_takesOrder 53 = .ok (.iload_n 3, 1) := by decide +kernel
theorem dX6_takesOrder_54 : decode cX6_takesOrder 54 = .ok (.iload_n 2, 1) := by decide +kernel
theorem dX6_takesOrder_55 : decode cX6_takesOrder 55 = .ok (.if_icmp .ge 26, 3) := by decide +kernel
theorem dX6_takesOrder_58 : decode cX6_takesOrder 58 = .ok (.aload_n 0, 1) := by decide +kernel
theorem dX6_takesOrder_59 : decode cX6_takesOrder 59 = .ok (.iconst 5, 1) := by decide +kernel
theorem dX6_takesOrder_60 : decode cX6_takesOrder 60 = .ok (.aload_n 0, 1) := by decide +kernel
theorem dX6_takesOrder_61 : decode cX6_takesOrder 61 = .ok (.getfield 248, 3) := by decide +kernel
theorem dX6_takesOrder_64 : decode cX6_takesOrder 64 = .ok (.imul, 1) := by decide +kernel
theorem dX6_takesOrder_65 : decode cX6_takesOrder 65 = .ok (.iload_n 3, 1) := by decide +kernel
theorem dX6_takesOrder_66 : decode cX6_takesOrder 66 = .ok (.iadd, 1) := by decide +kernel
theorem dX6_takesOrder_67 : decode cX6_takesOrder 67 = .ok (.invokevirtual 251, 3) := by decide +kernel
theorem dX6_takesOrder_70 : decode cX6_takesOrder 70 = .ok (.ifCond .ne 5, 3) := by decide +kernel
theorem dX6_takesOrder_73 : decode cX6_takesOrder 73 = .ok (.iconst 0, 1) := by decide +kernel
theorem dX6_takesOrder_74 : decode cX6_takesOrder 74 = .ok (.ireturn, 1) := by decide +kernel
theorem dX6_takesOrder_75 : decode cX6_takesOrder 75 = .ok (.iinc 3 1, 3) := by decide +kernel
theorem dX6_takesOrder_78 : decode cX6_takesOrder 78 = .ok (.goto (-25), 3) := by decide +kernel
theorem dX6_takesOrder_81 : decode cX6_takesOrder 81 = .ok (.aload_n 0, 1) := by decide +kernel
theorem dX6_takesOrder_82 : decode cX6_takesOrder 82 = .ok (.invokevirtual 239, 3) := by decide +kernel
theorem dX6_takesOrder_85 : decode cX6_takesOrder 85 = .ok (.aload_n 0, 1) := by decide +kernel
theorem dX6_takesOrder_86 : decode cX6_takesOrder 86 = .ok (.bipush 59, 2) := by decide +kernel
theorem dX6_takesOrder_88 : decode cX6_takesOrder 88 = .ok (.bipush 59, 2) := by decide +kernel
theorem dX6_takesOrder_90 : decode cX6_takesOrder 90 = .ok (.invokevirtual 233, 3) := by decide +kernel
theorem dX6_takesOrder_93 : decode cX6_takesOrder 93 = .ok (.ifCond .ne 12, 3) := by decide +kernel
theorem dX6_takesOrder_96 : decode cX6_takesOrder 96 = .ok (.aload_n 0, 1) := by decide +kernel
theorem dX6_takesOrder_97 : decode cX6_takesOrder 97 = .ok (.aload_n 0, 1) := by decide +kernel
theorem dX6_takesOrder_98 : decode cX6_takesOrder 98 = .ok (.getfield 230, 3) := by decide +kernel
theorem dX6_takesOrder_101 : decode cX6_takesOrder 101 = .ok (.invokevirtual 242, 3) := by decide +kernel
theorem dX6_takesOrder_104 : decode cX6_takesOrder 104 = .ok (.ireturn, 1) := by decide +kernel
theorem dX6_takesOrder_105 : decode cX6_takesOrder 105 = .ok (.aload_n 0, 1) := by decide +kernel
theorem dX6_takesOrder_106 : decode cX6_takesOrder 106 = .ok (.dup, 1) := by decide +kernel
theorem dX6_takesOrder_107 : decode cX6_takesOrder 107 = .ok (.getfield 230, 3) := by decide +kernel
theorem dX6_takesOrder_110 : decode cX6_takesOrder 110 = .ok (.iconst 1, 1) := by decide +kernel
theorem dX6_takesOrder_111 : decode cX6_takesOrder 111 = .ok (.iadd, 1) := by decide +kernel
theorem dX6_takesOrder_112 : decode cX6_takesOrder 112 = .ok (.putfield 230, 3) := by decide +kernel
theorem dX6_takesOrder_115 : decode cX6_takesOrder 115 = .ok (.aload_n 0, 1) := by decide +kernel
theorem dX6_takesOrder_116 : decode cX6_takesOrder 116 = .ok (.dup, 1) := by decide +kernel
theorem dX6_takesOrder_117 : decode cX6_takesOrder 117 = .ok (.getfield 248, 3) := by decide +kernel
theorem dX6_takesOrder_120 : decode cX6_takesOrder 120 = .ok (.iconst 1, 1) := by decide +kernel
theorem dX6_takesOrder_121 : decode cX6_takesOrder 121 = .ok (.iadd, 1) := by decide +kernel
theorem dX6_takesOrder_122 : decode cX6_takesOrder 122 = .ok (.putfield 248, 3) := by decide +kernel
theorem dX6_takesOrder_125 : decode cX6_takesOrder 125 = .ok (.iconst 1, 1) := by decide +kernel
theorem dX6_takesOrder_126 : decode cX6_takesOrder 126 = .ok (.ireturn, 1) := by decide +kernel
theorem dX6_isRead_0 : decode cX6_isRead 0 = .ok (.aload_n 0, 1) := by decide +kernel
theorem dX6_isRead_1 : decode cX6_isRead 1 = .ok (.iconst 0, 1) := by decide +kernel
theorem dX6_isRead_2 : decode cX6_isRead 2 = .ok (.putfield 230, 3) := by decide +kernel
theorem dX6_isRead_5 : decode cX6_isRead 5 = .ok (.aload_n 0, 1) := by decide +kernel
theorem dX6_isRead_6 : decode cX6_isRead 6 = .ok (.iconst 0, 1) := by decide +kernel
theorem dX6_isRead_7 : decode cX6_isRead 7 = .ok (.putfield 248, 3) := by decide +kernel
theorem dX6_isRead_10 : decode cX6_isRead 10 = .ok (.aload_n 0, 1) := by decide +kernel
theorem dX6_isRead_11 : decode cX6_isRead 11 = .ok (.invokevirtual 239, 3) := by decide +kernel
theorem dX6_isRead_14 : decode cX6_isRead 14 = .ok (.aload_n 0, 1) := by decide +kernel
theorem dX6_isRead_15 : decode cX6_isRead 15 = .ok (.getfield 230, 3) := by decide +kernel
theorem dX6_isRead_18 : decode cX6_isRead 18 = .ok (.aload_n 0, 1) := by decide +kernel
theorem dX6_isRead_19 : decode cX6_isRead 19 = .ok (.getfield 227, 3) := by decide +kernel
theorem dX6_isRead_22 : decode cX6_isRead 22 = .ok (.if_icmp .ge 19, 3) := by decide +kernel
theorem dX6_isRead_25 : decode cX6_isRead 25 = .ok (.aload_n 0, 1) := by decide +kernel
theorem dX6_isRead_26 : decode cX6_isRead 26 = .ok (.invokevirtual 254, 3) := by decide +kernel
theorem dX6_isRead_29 : decode cX6_isRead 29 = .ok (.ifCond .ne 5, 3) := by decide +kernel
theorem dX6_isRead_32 : decode cX6_isRead 32 = .ok (.iconst 0, 1) := by decide +kernel
theorem dX6_isRead_33 : decode cX6_isRead 33 = .ok (.ireturn, 1) := by decide +kernel
theorem dX6_isRead_34 : decode cX6_isRead 34 = .ok (.aload_n 0, 1) := by decide +kernel
theorem dX6_isRead_35 : decode cX6_isRead 35 = .ok (.invokevirtual 239, 3) := by decide +kernel
theorem dX6_isRead_38 : decode cX6_isRead 38 = .ok (.goto (-24), 3) := by decide +kernel
theorem dX6_isRead_41 : decode cX6_isRead 41 = .ok (.aload_n 0, 1) := by decide +kernel
theorem dX6_isRead_42 : decode cX6_isRead 42 = .ok (.getfield 248, 3) := by decide +kernel
theorem dX6_isRead_45 : decode cX6_isRead 45 = .ok (.ifCond .gt 14, 3) := by decide +kernel
theorem dX6_isRead_48 : decode cX6_isRead 48 = .ok (.aload_n 0, 1) := by decide +kernel
theorem dX6_isRead_49 : decode cX6_isRead 49 = .ok (.aload_n 0, 1) := by decide +kernel
theorem dX6_isRead_50 : decode cX6_isRead 50 = .ok (.getfield 227, 3) := by decide +kernel
theorem dX6_isRead_53 : decode cX6_isRead 53 = .ok (.invokevirtual 242, 3) := by decide +kernel
theorem dX6_isRead_56 : decode cX6_isRead 56 = .ok (.ifCond .eq 7, 3) := by decide +kernel
theorem dX6_isRead_59 : decode cX6_isRead 59 = .ok (.iconst 1, 1) := by decide +kernel
theorem dX6_isRead_60 : decode cX6_isRead 60 = .ok (.goto 4, 3) := by decide +kernel
theorem dX6_isRead_63 : decode cX6_isRead 63 = .ok (.iconst 0, 1) := by decide +kernel
theorem dX6_isRead_64 : decode cX6_isRead 64 = .ok (.ireturn, 1) := by decide +kernel
theorem dX6_doneOne_0 : decode cX6_doneOne 0 = .ok (.iconst 5, 1) := by decide +kernel
theorem dX6_doneOne_1 : decode cX6_doneOne 1 = .ok (.iload_n 1, 1) := by decide +kernel
theorem dX6_doneOne_2 : decode cX6_doneOne 2 = .ok (.imul, 1) := by decide +kernel
theorem dX6_doneOne_3 : decode cX6_doneOne 3 = .ok (.istore_n 2, 1) := by decide +kernel
theorem dX6_doneOne_4 : decode cX6_doneOne 4 = .ok (.aload_n 0, 1) := by decide +kernel
theorem dX6_doneOne_5 : decode cX6_doneOne 5 = .ok (.getfield 43, 3) := by decide +kernel
theorem dX6_doneOne_8 : decode cX6_doneOne 8 = .ok (.iload_n 2, 1) := by decide +kernel
theorem dX6_doneOne_9 : decode cX6_doneOne 9 = .ok (.iaload, 1) := by decide +kernel
theorem dX6_doneOne_10 : decode cX6_doneOne 10 = .ok (.istore_n 3, 1) := by decide +kernel
theorem dX6_doneOne_11 : decode cX6_doneOne 11 = .ok (.aload_n 0, 1) := by decide +kernel
theorem dX6_doneOne_12 : decode cX6_doneOne 12 = .ok (.getfield 43, 3) := by decide +kernel
theorem dX6_doneOne_15 : decode cX6_doneOne 15 = .ok (.iload_n 2, 1) := by decide +kernel
theorem dX6_doneOne_16 : decode cX6_doneOne 16 = .ok (.iconst 1, 1) := by decide +kernel
theorem dX6_doneOne_17 : decode cX6_doneOne 17 = .ok (.iadd, 1) := by decide +kernel
theorem dX6_doneOne_18 : decode cX6_doneOne 18 = .ok (.iaload, 1) := by decide +kernel
theorem dX6_doneOne_19 : decode cX6_doneOne 19 = .ok (.istore 4, 2) := by decide +kernel
theorem dX6_doneOne_21 : decode cX6_doneOne 21 = .ok (.aload_n 0, 1) := by decide +kernel
theorem dX6_doneOne_22 : decode cX6_doneOne 22 = .ok (.getfield 43, 3) := by decide +kernel
theorem dX6_doneOne_25 : decode cX6_doneOne 25 = .ok (.iload_n 2, 1) := by decide +kernel
theorem dX6_doneOne_26 : decode cX6_doneOne 26 = .ok (.iconst 2, 1) := by decide +kernel
theorem dX6_doneOne_27 : decode cX6_doneOne 27 = .ok (.iadd, 1) := by decide +kernel
theorem dX6_doneOne_28 : decode cX6_doneOne 28 = .ok (.iaload, 1) := by decide +kernel
theorem dX6_doneOne_29 : decode cX6_doneOne 29 = .ok (.istore 5, 2) := by decide +kernel
theorem dX6_doneOne_31 : decode cX6_doneOne 31 = .ok (.aload_n 0, 1) := by decide +kernel
theorem dX6_doneOne_32 : decode cX6_doneOne 32 = .ok (.getfield 43, 3) := by decide +kernel
theorem dX6_doneOne_35 : decode cX6_doneOne 35 = .ok (.iload_n 2, 1) := by decide +kernel
theorem dX6_doneOne_36 : decode cX6_doneOne 36 = .ok (.iconst 3, 1) := by decide +kernel
theorem dX6_doneOne_37 : decode cX6_doneOne 37 = .ok (.iadd, 1) := by decide +kernel
theorem dX6_doneOne_38 : decode cX6_doneOne 38 = .ok (.iaload, 1) := by decide +kernel
theorem dX6_doneOne_39 : decode cX6_doneOne 39 = .ok (.istore 6, 2) := by decide +kernel
theorem dX6_doneOne_41 : decode cX6_doneOne 41 = .ok (.aload_n 0, 1) := by decide +kernel
theorem dX6_doneOne_42 : decode cX6_doneOne 42 = .ok (.getfield 40, 3) := by decide +kernel
theorem dX6_doneOne_45 : decode cX6_doneOne 45 = .ok (.iload_n 1, 1) := by decide +kernel
theorem dX6_doneOne_46 : decode cX6_doneOne 46 = .ok (.iaload, 1) := by decide +kernel
theorem dX6_doneOne_47 : decode cX6_doneOne 47 = .ok (.lookupswitch 105 #[(101, 73), (103, 49), (108, 93), (115, 65), (118, 57)], 49) := by decide +kernel
theorem dX6_doneOne_96 : decode cX6_doneOne 96 = .ok (.aload_n 0, 1) := by decide +kernel
theorem dX6_doneOne_97 : decode cX6_doneOne 97 = .ok (.iload_n 3, 1) := by decide +kernel
theorem dX6_doneOne_98 : decode cX6_doneOne 98 = .ok (.iload 4, 2) := by decide +kernel
theorem dX6_doneOne_100 : decode cX6_doneOne 100 = .ok (.invokevirtual 92, 3) := by decide +kernel
theorem dX6_doneOne_103 : decode cX6_doneOne 103 = .ok (.ireturn, 1) := by decide +kernel
theorem dX6_doneOne_104 : decode cX6_doneOne 104 = .ok (.aload_n 0, 1) := by decide +kernel
theorem dX6_doneOne_105 : decode cX6_doneOne 105 = .ok (.iload_n 3, 1) := by decide +kernel
theorem dX6_doneOne_106 : decode cX6_doneOne 106 = .ok (.iload 4, 2) := by decide +kernel
theorem dX6_doneOne_108 : decode cX6_doneOne 108 = .ok (.invokevirtual 98, 3) := by decide +kernel
theorem dX6_doneOne_111 : decode cX6_doneOne 111 = .ok (.ireturn, 1) := by decide +kernel
theorem dX6_doneOne_112 : decode cX6_doneOne 112 = .ok (.aload_n 0, 1) := by decide +kernel
theorem dX6_doneOne_113 : decode cX6_doneOne 113 = .ok (.iload_n 3, 1) := by decide +kernel
theorem dX6_doneOne_114 : decode cX6_doneOne 114 = .ok (.iload 4, 2) := by decide +kernel
theorem dX6_doneOne_116 : decode cX6_doneOne 116 = .ok (.invokevirtual 101, 3) := by decide +kernel
theorem dX6_doneOne_119 : decode cX6_doneOne 119 = .ok (.ireturn, 1) := by decide +kernel
theorem dX6_doneOne_120 : decode cX6_doneOne 120 = .ok (.aload_n 0, 1) := by decide +kernel
theorem dX6_doneOne_121 : decode cX6_doneOne 121 = .ok (.iload_n 3, 1) := by decide +kernel
theorem dX6_doneOne_122 : decode cX6_doneOne 122 = .ok (.iload 4, 2) := by decide +kernel
theorem dX6_doneOne_124 : decode cX6_doneOne 124 = .ok (.iload 5, 2) := by decide +kernel
theorem dX6_doneOne_126 : decode cX6_doneOne 126 = .ok (.iload 6, 2) := by decide +kernel
theorem dX6_doneOne_128 : decode cX6_doneOne 128 = .ok (.aload_n 0, 1) := by decide +kernel
theorem dX6_doneOne_129 : decode cX6_doneOne 129 = .ok (.getfield 43, 3) := by decide +kernel
theorem dX6_doneOne_132 : decode cX6_doneOne 132 = .ok (.iload_n 2, 1) := by decide +kernel
theorem dX6_doneOne_133 : decode cX6_doneOne 133 = .ok (.iconst 4, 1) := by decide +kernel
theorem dX6_doneOne_134 : decode cX6_doneOne 134 = .ok (.iadd, 1) := by decide +kernel
theorem dX6_doneOne_135 : decode cX6_doneOne 135 = .ok (.iaload, 1) := by decide +kernel
theorem dX6_doneOne_136 : decode cX6_doneOne 136 = .ok (.invokevirtual 107, 3) := by decide +kernel
theorem dX6_doneOne_139 : decode cX6_doneOne 139 = .ok (.ireturn, 1) := by decide +kernel
theorem dX6_doneOne_140 : decode cX6_doneOne 140 = .ok (.aload_n 0, 1) := by decide +kernel
theorem dX6_doneOne_141 : decode cX6_doneOne 141 = .ok (.iload_n 3, 1) := by decide +kernel
theorem dX6_doneOne_142 : decode cX6_doneOne 142 = .ok (.iload 4, 2) := by decide +kernel
theorem dX6_doneOne_144 : decode cX6_doneOne 144 = .ok (.iload 5, 2) := by decide +kernel
theorem dX6_doneOne_146 : decode cX6_doneOne 146 = .ok (.iload 6, 2) := by decide +kernel
theorem dX6_doneOne_148 : decode cX6_doneOne 148 = .ok (.invokevirtual 111, 3) := by decide +kernel
theorem dX6_doneOne_151 : decode cX6_doneOne 151 = .ok (.ireturn, 1) := by decide +kernel
theorem dX6_doneOne_152 : decode cX6_doneOne 152 = .ok (.aload_n 0, 1) := by decide +kernel
theorem dX6_doneOne_153 : decode cX6_doneOne 153 = .ok (.iload_n 3, 1) := by decide +kernel
theorem dX6_doneOne_154 : decode cX6_doneOne 154 = .ok (.iload 4, 2) := by decide +kernel
theorem dX6_doneOne_156 : decode cX6_doneOne 156 = .ok (.iload 5, 2) := by decide +kernel
theorem dX6_doneOne_158 : decode cX6_doneOne 158 = .ok (.invokevirtual 115, 3) := by decide +kernel
theorem dX6_doneOne_161 : decode cX6_doneOne 161 = .ok (.ireturn, 1) := by decide +kernel
theorem dX6_does_0 : decode cX6_does 0 = .ok (.aload_n 0, 1) := by decide +kernel
theorem dX6_does_1 : decode cX6_does 1 = .ok (.invokevirtual 258, 3) := by decide +kernel
theorem dX6_does_4 : decode cX6_does 4 = .ok (.ifCond .ne 11, 3) := by decide +kernel
theorem dX6_does_7 : decode cX6_does 7 = .ok (.bipush (-10), 2) := by decide +kernel
theorem dX6_does_9 : decode cX6_does 9 = .ok (.aload_n 0, 1) := by decide +kernel
theorem dX6_does_10 : decode cX6_does 10 = .ok (.getfield 236, 3) := by decide +kernel
theorem dX6_does_13 : decode cX6_does 13 = .ok (.isub, 1) := by decide +kernel
theorem dX6_does_14 : decode cX6_does 14 = .ok (.ireturn, 1) := by decide +kernel
theorem dX6_does_15 : decode cX6_does 15 = .ok (.aload_n 0, 1) := by decide +kernel
theorem dX6_does_16 : decode cX6_does 16 = .ok (.invokevirtual 89, 3) := by decide +kernel
theorem dX6_does_19 : decode cX6_does 19 = .ok (.iconst 0, 1) := by decide +kernel
theorem dX6_does_20 : decode cX6_does 20 = .ok (.istore_n 1, 1) := by decide +kernel
theorem dX6_does_21 : decode cX6_does 21 = .ok (.iload_n 1, 1) := by decide +kernel
theorem dX6_does_22 : decode cX6_does 22 = .ok (.aload_n 0, 1) := by decide +kernel
theorem dX6_does_23 : decode cX6_does 23 = .ok (.getfield 248, 3) := by decide +kernel
theorem dX6_does_26 : decode cX6_does 26 = .ok (.if_icmp .ge 53, 3) := by decide +kernel
theorem dX6_does_29 : decode cX6_does 29 = .ok (.aload_n 0, 1) := by decide +kernel
theorem dX6_does_30 : decode cX6_does 30 = .ok (.iload_n 1, 1) := by decide +kernel
theorem dX6_does_31 : decode cX6_does 31 = .ok (.invokevirtual 261, 3) := by decide +kernel
theorem dX6_does_34 : decode cX6_does 34 = .ok (.sipush (-10002), 3) := by decide +kernel
theorem dX6_does_37 : decode cX6_does 37 = .ok (.if_icmp .ne 36, 3) := by decide +kernel
theorem dX6_does_40 : decode cX6_does 40 = .ok (.iconst 0, 1) := by decide +kernel
theorem dX6_does_41 : decode cX6_does 41 = .ok (.istore_n 2, 1) := by decide +kernel
theorem dX6_does_42 : decode cX6_does 42 = .ok (.iload_n 2, 1) := by decide +kernel
theorem dX6_does_43 : decode cX6_does 43 = .ok (.sipush 395, 3) := by decide +kernel
theorem dX6_does_46 : decode cX6_does 46 = .ok (.if_icmp .ge 21, 3) := by decide +kernel
theorem dX6_does_49 : decode cX6_does 49 = .ok (.aload_n 0, 1) := by decide +kernel
theorem dX6_does_50 : decode cX6_does 50 = .ok (.getfield 7, 3) := by decide +kernel
theorem dX6_does_53 : decode cX6_does 53 = .ok (.iload_n 2, 1) := by decide +kernel
theorem dX6_does_54 : decode cX6_does 54 = .ok (.aload_n 0, 1) := by decide +kernel
theorem dX6_does_55 : decode cX6_does 55 = .ok (.getfield 13, 3) := by decide +kernel
theorem dX6_does_58 : decode cX6_does 58 = .ok (.iload_n 2, 1) := by decide +kernel
theorem dX6_does_59 : decode cX6_does 59 = .ok (.iaload, 1) := by decide +kernel
theorem dX6_does_60 : decode cX6_does 60 = .ok (.iastore, 1) := by decide +kernel
theorem dX6_does_61 : decode cX6_does 61 = .ok (.iinc 2 1, 3) := by decide +kernel
theorem dX6_does_64 : decode cX6_does 64 = .ok (.goto (-22), 3) := by decide +kernel
theorem dX6_does_67 : decode cX6_does 67 = .ok (.sipush (-1000), 3) := by decide +kernel
theorem dX6_does_70 : decode cX6_does 70 = .ok (.iload_n 1, 1) := by decide +kernel
theorem dX6_does_71 : decode cX6_does 71 = .ok (.isub, 1) := by decide +kernel
theorem dX6_does_72 : decode cX6_does 72 = .ok (.ireturn, 1) := by decide +kernel
theorem dX6_does_73 : decode cX6_does 73 = .ok (.iinc 1 1, 3) := by decide +kernel
theorem dX6_does_76 : decode cX6_does 76 = .ok (.goto (-55), 3) := by decide +kernel
theorem dX6_does_79 : decode cX6_does 79 = .ok (.aload_n 0, 1) := by decide +kernel
theorem dX6_does_80 : decode cX6_does 80 = .ok (.invokevirtual 57, 3) := by decide +kernel
theorem dX6_does_83 : decode cX6_does 83 = .ok (.aload_n 0, 1) := by decide +kernel
theorem dX6_does_84 : decode cX6_does 84 = .ok (.getfield 248, 3) := by decide +kernel
theorem dX6_does_87 : decode cX6_does 87 = .ok (.ireturn, 1) := by decide +kernel
theorem dX6_refusedOf_0 : decode cX6_refusedOf 0 = .ok (.iload_n 1, 1) := by decide +kernel
theorem dX6_refusedOf_1 : decode cX6_refusedOf 1 = .ok (.iconst 3, 1) := by decide +kernel
theorem dX6_refusedOf_2 : decode cX6_refusedOf 2 = .ok (.if_icmp .ge 12, 3) := by decide +kernel
theorem dX6_refusedOf_5 : decode cX6_refusedOf 5 = .ok (.aload_n 0, 1) := by decide +kernel
theorem dX6_refusedOf_6 : decode cX6_refusedOf 6 = .ok (.getfield 19, 3) := by decide +kernel
theorem dX6_refusedOf_9 : decode cX6_refusedOf 9 = .ok (.iload_n 1, 1) := by decide +kernel
theorem dX6_refusedOf_10 : decode cX6_refusedOf 10 = .ok (.iaload, 1) := by decide +kernel
theorem dX6_refusedOf_11 : decode cX6_refusedOf 11 = .ok (.goto 19, 3) := by decide +kernel
theorem dX6_refusedOf_14 : decode cX6_refusedOf 14 = .ok (.iload_n 1, 1) := by decide +kernel
theorem dX6_refusedOf_15 : decode cX6_refusedOf 15 = .ok (.iconst 3, 1) := by decide +kernel
theorem dX6_refusedOf_16 : decode cX6_refusedOf 16 = .ok (.if_icmp .ne 10, 3) := by decide +kernel
theorem dX6_refusedOf_19 : decode cX6_refusedOf 19 = .ok (.aload_n 0, 1) := by decide +kernel
theorem dX6_refusedOf_20 : decode cX6_refusedOf 20 = .ok (.getfield 227, 3) := by decide +kernel
theorem dX6_refusedOf_23 : decode cX6_refusedOf 23 = .ok (.goto 7, 3) := by decide +kernel
theorem dX6_refusedOf_26 : decode cX6_refusedOf 26 = .ok (.aload_n 0, 1) := by decide +kernel
theorem dX6_refusedOf_27 : decode cX6_refusedOf 27 = .ok (.getfield 46, 3) := by decide +kernel
theorem dX6_refusedOf_30 : decode cX6_refusedOf 30 = .ok (.ireturn, 1) := by decide +kernel
theorem dX6_refused_0 : decode cX6_refused 0 = .ok (.iload_n 1, 1) := by decide +kernel
theorem dX6_refused_1 : decode cX6_refused 1 = .ok (.iconst 0, 1) := by decide +kernel
theorem dX6_refused_2 : decode cX6_refused 2 = .ok (.iconst 4, 1) := by decide +kernel
theorem dX6_refused_3 : decode cX6_refused 3 = .ok (.invokestatic 60, 3) := by decide +kernel
theorem dX6_refused_6 : decode cX6_refused 6 = .ok (.ifCond .eq 11, 3) := by decide +kernel
theorem dX6_refused_9 : decode cX6_refused 9 = .ok (.aload_n 0, 1) := by decide +kernel
theorem dX6_refused_10 : decode cX6_refused 10 = .ok (.iload_n 1, 1) := by decide +kernel
theorem dX6_refused_11 : decode cX6_refused 11 = .ok (.invokevirtual 264, 3) := by decide +kernel
theorem dX6_refused_14 : decode cX6_refused 14 = .ok (.goto 7, 3) := by decide +kernel
theorem dX6_refused_17 : decode cX6_refused 17 = .ok (.aload_n 0, 1) := by decide +kernel
theorem dX6_refused_18 : decode cX6_refused 18 = .ok (.invokevirtual 54, 3) := by decide +kernel
theorem dX6_refused_21 : decode cX6_refused 21 = .ok (.ireturn, 1) := by decide +kernel
theorem dX6_mix_0 : decode cX6_mix 0 = .ok (.aload_n 0, 1) := by decide +kernel
theorem dX6_mix_1 : decode cX6_mix 1 = .ok (.ldc2_w 267, 3) := by decide +kernel
theorem dX6_mix_4 : decode cX6_mix 4 = .ok (.aload_n 0, 1) := by decide +kernel
theorem dX6_mix_5 : decode cX6_mix 5 = .ok (.getfield 269, 3) := by decide +kernel
theorem dX6_mix_8 : decode cX6_mix 8 = .ok (.lmul, 1) := by decide +kernel
theorem dX6_mix_9 : decode cX6_mix 9 = .ok (.lload_n 1, 1) := by decide +kernel
theorem dX6_mix_10 : decode cX6_mix 10 = .ok (.ladd, 1) := by decide +kernel
theorem dX6_mix_11 : decode cX6_mix 11 = .ok (.putfield 269, 3) := by decide +kernel
theorem dX6_mix_14 : decode cX6_mix 14 = .ok (.return_, 1) := by decide +kernel
theorem dX6_mixCells_0 : decode cX6_mixCells 0 = .ok (.aload_n 0, 1) := by decide +kernel
theorem dX6_mixCells_1 : decode cX6_mixCells 1 = .ok (.iload_n 1, 1) := by decide +kernel
theorem dX6_mixCells_2 : decode cX6_mixCells 2 = .ok (.invokevirtual 214, 3) := by decide +kernel
theorem dX6_mixCells_5 : decode cX6_mixCells 5 = .ok (.iconst 0, 1) := by decide +kernel
theorem dX6_mixCells_6 : decode cX6_mixCells 6 = .ok (.istore_n 2, 1) := by decide +kernel
theorem dX6_mixCells_7 : decode cX6_mixCells 7 = .ok (.iload_n 2, 1) := by decide +kernel
theorem dX6_mixCells_8 : decode cX6_mixCells 8 = .ok (.aload_n 0, 1) := by decide +kernel
theorem dX6_mixCells_9 : decode cX6_mixCells 9 = .ok (.getfield 7, 3) := by decide +kernel
theorem dX6_mixCells_12 : decode cX6_mixCells 12 = .ok (.iconst 1, 1) := by decide +kernel
theorem dX6_mixCells_13 : decode cX6_mixCells 13 = .ok (.iaload, 1) := by decide +kernel
theorem dX6_mixCells_14 : decode cX6_mixCells 14 = .ok (.if_icmp .ge 157, 3) := by decide +kernel
theorem dX6_mixCells_17 : decode cX6_mixCells 17 = .ok (.iconst 0, 1) := by decide +kernel
theorem dX6_mixCells_18 : decode cX6_mixCells 18 = .ok (.istore_n 3, 1) := by decide +kernel
theorem dX6_mixCells_19 : decode cX6_mixCells 19 = .ok (.iload_n 3, 1) := by decide +kernel
theorem dX6_mixCells_20 : decode cX6_mixCells 20 = .ok (.aload_n 0, 1) := by decide +kernel
theorem dX6_mixCells_21 : decode cX6_mixCells 21 = .ok (.getfield 7, 3) := by decide +kernel
theorem dX6_mixCells_24 : decode cX6_mixCells 24 = .ok (.iconst 0, 1) := by decide +kernel
theorem dX6_mixCells_25 : decode cX6_mixCells 25 = .ok (.iaload, 1) := by decide +kernel
theorem dX6_mixCells_26 : decode cX6_mixCells 26 = .ok (.if_icmp .ge 139, 3) := by decide +kernel
theorem dX6_mixCells_29 : decode cX6_mixCells 29 = .ok (.iload_n 1, 1) := by decide +kernel
theorem dX6_mixCells_30 : decode cX6_mixCells 30 = .ok (.iload_n 3, 1) := by decide +kernel
theorem dX6_mixCells_31 : decode cX6_mixCells 31 = .ok (.iload_n 2, 1) := by decide +kernel
theorem dX6_mixCells_32 : decode cX6_mixCells 32 = .ok (.invokestatic 72, 3) := by decide +kernel
theorem dX6_mixCells_35 : decode cX6_mixCells 35 = .ok (.istore 4, 2) := by decide +kernel
theorem dX6_mixCells_37 : decode cX6_mixCells 37 = .ok (.iconst 0, 1) := by decide +kernel
theorem dX6_mixCells_38 : decode cX6_mixCells 38 = .ok (.istore 5, 2) := by decide +kernel
theorem dX6_mixCells_40 : decode cX6_mixCells 40 = .ok (.iload 5, 2) := by decide +kernel
theorem dX6_mixCells_42 : decode cX6_mixCells 42 = .ok (.bipush 12, 2) := by decide +kernel
theorem dX6_mixCells_44 : decode cX6_mixCells 44 = .ok (.if_icmp .ge 24, 3) := by decide +kernel
theorem dX6_mixCells_47 : decode cX6_mixCells 47 = .ok (.aload_n 0, 1) := by decide +kernel
theorem dX6_mixCells_48 : decode cX6_mixCells 48 = .ok (.aload_n 0, 1) := by decide +kernel
theorem dX6_mixCells_49 : decode cX6_mixCells 49 = .ok (.getfield 7, 3) := by decide +kernel
theorem dX6_mixCells_52 : decode cX6_mixCells 52 = .ok (.iload 4, 2) := by decide +kernel
theorem dX6_mixCells_54 : decode cX6_mixCells 54 = .ok (.iload 5, 2) := by decide +kernel
theorem dX6_mixCells_56 : decode cX6_mixCells 56 = .ok (.iadd, 1) := by decide +kernel
theorem dX6_mixCells_57 : decode cX6_mixCells 57 = .ok (.iaload, 1) := by decide +kernel
theorem dX6_mixCells_58 : decode cX6_mixCells 58 = .ok (.i2l, 1) := by decide +kernel
theorem dX6_mixCells_59 : decode cX6_mixCells 59 = .ok (.invokevirtual 273, 3) := by decide +kernel
theorem dX6_mixCells_62 : decode cX6_mixCells 62 = .ok (.iinc 5 1, 3) := by decide +kernel
theorem dX6_mixCells_65 : decode cX6_mixCells 65 = .ok (.goto (-25), 3) := by decide +kernel
theorem dX6_mixCells_68 : decode cX6_mixCells 68 = .ok (.iconst 4, 1) := by decide +kernel
theorem dX6_mixCells_69 : decode cX6_mixCells 69 = .ok (.iload_n 2, 1) := by decide +kernel
theorem dX6_mixCells_70 : decode cX6_mixCells 70 = .ok (.imul, 1) := by decide +kernel
theorem dX6_mixCells_71 : decode cX6_mixCells 71 = .ok (.iload_n 3, 1) := by decide +kernel
theorem dX6_mixCells_72 : decode cX6_mixCells 72 = .ok (.iadd, 1) := by decide +kernel
theorem dX6_mixCells_73 : decode cX6_mixCells 73 = .ok (.istore 5, 2) := by decide +kernel
theorem dX6_mixCells_75 : decode cX6_mixCells 75 = .ok (.aload_n 0, 1) := by decide +kernel
theorem dX6_mixCells_76 : decode cX6_mixCells 76 = .ok (.aload_n 0, 1) := by decide +kernel
theorem dX6_mixCells_77 : decode cX6_mixCells 77 = .ok (.getfield 28, 3) := by decide +kernel
theorem dX6_mixCells_80 : decode cX6_mixCells 80 = .ok (.iload 5, 2) := by decide +kernel
theorem dX6_mixCells_82 : decode cX6_mixCells 82 = .ok (.iaload, 1) := by decide +kernel
theorem dX6_mixCells_83 : decode cX6_mixCells 83 = .ok (.i2l, 1) := by decide +kernel
theorem dX6_mixCells_84 : decode cX6_mixCells 84 = .ok (.invokevirtual 273, 3) := by decide +kernel
theorem dX6_mixCells_87 : decode cX6_mixCells 87 = .ok (.aload_n 0, 1) := by decide +kernel
theorem dX6_mixCells_88 : decode cX6_mixCells 88 = .ok (.getfield 28, 3) := by decide +kernel
theorem dX6_mixCells_91 : decode cX6_mixCells 91 = .ok (.iload 5, 2) := by decide +kernel
theorem dX6_mixCells_93 : decode cX6_mixCells 93 = .ok (.iaload, 1) := by decide +kernel
theorem dX6_mixCells_94 : decode cX6_mixCells 94 = .ok (.ifCond .ne 18, 3) := by decide +kernel
theorem dX6_mixCells_97 : decode cX6_mixCells 97 = .ok (.aload_n 0, 1) := by decide +kernel
theorem dX6_mixCells_98 : decode cX6_mixCells 98 = .ok (.aload_n 0, 1) := by decide +kernel
theorem dX6_mixCells_99 : decode cX6_mixCells 99 = .ok (.getfield 31, 3) := by decide +kernel
theorem dX6_mixCells_102 : decode cX6_mixCells 102 = .ok (.iload 5, 2) := by decide +kernel
theorem dX6_mixCells_104 : decode cX6_mixCells 104 = .ok (.iaload, 1) := by decide +kernel
theorem dX6_mixCells_105 : decode cX6_mixCells 105 = .ok (.i2l, 1) := by decide +kernel
theorem dX6_mixCells_106 : decode cX6_mixCells 106 = .ok (.invokevirtual 273, 3) := by decide +kernel
theorem dX6_mixCells_109 : decode cX6_mixCells 109 = .ok (.goto 50, 3) := by decide +kernel
theorem dX6_mixCells_112 : decode cX6_mixCells 112 = .ok (.aload_n 0, 1) := by decide +kernel
theorem dX6_mixCells_113 : decode cX6_mixCells 113 = .ok (.getfield 28, 3) := by decide +kernel
theorem dX6_mixCells_116 : decode cX6_mixCells 116 = .ok (.iload 5, 2) := by decide +kernel
theorem dX6_mixCells_118 : decode cX6_mixCells 118 = .ok (.iaload, 1) := by decide +kernel
theorem dX6_mixCells_119 : decode cX6_mixCells 119 = .ok (.iconst 4, 1) := by decide +kernel
theorem dX6_mixCells_120 : decode cX6_mixCells 120 = .ok (.if_icmp .ne 27, 3) := by decide +kernel
theorem dX6_mixCells_123 : decode cX6_mixCells 123 = .ok (.aload_n 0, 1) := by decide +kernel
theorem dX6_mixCells_124 : decode cX6_mixCells 124 = .ok (.aload_n 0, 1) := by decide +kernel
theorem dX6_mixCells_125 : decode cX6_mixCells 125 = .ok (.getfield 34, 3) := by decide +kernel
theorem dX6_mixCells_128 : decode cX6_mixCells 128 = .ok (.iload 5, 2) := by decide +kernel
theorem dX6_mixCells_130 : decode cX6_mixCells 130 = .ok (.iaload, 1) := by decide +kernel
theorem dX6_mixCells_131 : decode cX6_mixCells 131 = .ok (.i2l, 1) := by decide +kernel
theorem dX6_mixCells_132 : decode cX6_mixCells 132 = .ok (.invokevirtual 273, 3) := by decide +kernel
theorem dX6_mixCells_135 : decode cX6_mixCells 135 = .ok (.aload_n 0, 1) := by decide +kernel
theorem dX6_mixCells_136 : decode cX6_mixCells 136 = .ok (.aload_n 0, 1) := by decide +kernel
theorem dX6_mixCells_137 : decode cX6_mixCells 137 = .ok (.getfield 37, 3) := by decide +kernel
theorem dX6_mixCells_140 : decode cX6_mixCells 140 = .ok (.iload 5, 2) := by decide +kernel
theorem dX6_mixCells_142 : decode cX6_mixCells 142 = .ok (.iaload, 1) := by decide +kernel
theorem dX6_mixCells_143 : decode cX6_mixCells 143 = .ok (.i2l, 1) := by decide +kernel
theorem dX6_mixCells_144 : decode cX6_mixCells 144 = .ok (.invokevirtual 273, 3) := by decide +kernel
theorem dX6_mixCells_147 : decode cX6_mixCells 147 = .ok (.aload_n 0, 1) := by decide +kernel
theorem dX6_mixCells_148 : decode cX6_mixCells 148 = .ok (.aload_n 0, 1) := by decide +kernel
theorem dX6_mixCells_149 : decode cX6_mixCells 149 = .ok (.iload_n 1, 1) := by decide +kernel
theorem dX6_mixCells_150 : decode cX6_mixCells 150 = .ok (.iload_n 3, 1) := by decide +kernel
theorem dX6_mixCells_151 : decode cX6_mixCells 151 = .ok (.iload_n 2, 1) := by decide +kernel
theorem dX6_mixCells_152 : decode cX6_mixCells 152 = .ok (.invokevirtual 208, 3) := by decide +kernel
theorem dX6_mixCells_155 : decode cX6_mixCells 155 = .ok (.i2l, 1) := by decide +kernel
theorem dX6_mixCells_156 : decode cX6_mixCells 156 = .ok (.invokevirtual 273, 3) := by decide +kernel
theorem dX6_mixCells_159 : decode cX6_mixCells 159 = .ok (.iinc 3 1, 3) := by decide +kernel
theorem dX6_mixCells_162 : decode cX6_mixCells 162 = .ok (.goto (-143), 3) := by decide +kernel
theorem dX6_mixCells_165 : decode cX6_mixCells 165 = .ok (.iinc 2 1, 3) := by decide +kernel
theorem dX6_mixCells_168 : decode cX6_mixCells 168 = .ok (.goto (-161), 3) := by decide +kernel
theorem dX6_mixCells_171 : decode cX6_mixCells 171 = .ok (.return_, 1) := by decide +kernel
theorem dX6_digest_0 : decode cX6_digest 0 = .ok (.aload_n 0, 1) := by decide +kernel
theorem dX6_digest_1 : decode cX6_digest 1 = .ok (.ldc2_w 277, 3) := by decide +kernel
theorem dX6_digest_4 : decode cX6_digest 4 = .ok (.putfield 269, 3) := by decide +kernel
theorem dX6_digest_7 : decode cX6_digest 7 = .ok (.iconst 0, 1) := by decide +kernel
theorem dX6_digest_8 : decode cX6_digest 8 = .ok (.istore_n 1, 1) := by decide +kernel
theorem dX6_digest_9 : decode cX6_digest 9 = .ok (.iload_n 1, 1) := by decide +kernel
theorem dX6_digest_10 : decode cX6_digest 10 = .ok (.iconst 5, 1) := by decide +kernel
theorem dX6_digest_11 : decode cX6_digest 11 = .ok (.if_icmp .ge 19, 3) := by decide +kernel
theorem dX6_digest_14 : decode cX6_digest 14 = .ok (.aload_n 0, 1) := by decide +kernel
theorem dX6_digest_15 : decode cX6_digest 15 = .ok (.aload_n 0, 1) := by decide +kernel
theorem dX6_digest_16 : decode cX6_digest 16 = .ok (.iload_n 1, 1) := by decide +kernel
theorem dX6_digest_17 : decode cX6_digest 17 = .ok (.invokevirtual 264, 3) := by decide +kernel
theorem dX6_digest_20 : decode cX6_digest 20 = .ok (.i2l, 1) := by decide +kernel
theorem dX6_digest_21 : decode cX6_digest 21 = .ok (.invokevirtual 273, 3) := by decide +kernel
theorem dX6_digest_24 : decode cX6_digest 24 = .ok (.iinc 1 1, 3) := by decide +kernel
theorem dX6_digest_27 : decode cX6_digest 27 = .ok (.goto (-18), 3) := by decide +kernel
theorem dX6_digest_30 : decode cX6_digest 30 = .ok (.iconst 0, 1) := by decide +kernel
theorem dX6_digest_31 : decode cX6_digest 31 = .ok (.istore_n 1, 1) := by decide +kernel
theorem dX6_digest_32 : decode cX6_digest 32 = .ok (.iload_n 1, 1) := by decide +kernel
theorem dX6_digest_33 : decode cX6_digest 33 = .ok (.bipush 11, 2) := by decide +kernel
theorem dX6_digest_35 : decode cX6_digest 35 = .ok (.if_icmp .ge 20, 3) := by decide +kernel
theorem dX6_digest_38 : decode cX6_digest 38 = .ok (.aload_n 0, 1) := by decide +kernel
theorem dX6_digest_39 : decode cX6_digest 39 = .ok (.aload_n 0, 1) := by decide +kernel
theorem dX6_digest_40 : decode cX6_digest 40 = .ok (.getfield 7, 3) := by decide +kernel
theorem dX6_digest_43 : decode cX6_digest 43 = .ok (.iload_n 1, 1) := by decide +kernel
theorem dX6_digest_44 : decode cX6_digest 44 = .ok (.iaload, 1) := by decide +kernel
theorem dX6_digest_45 : decode cX6_digest 45 = .ok (.i2l, 1) := by decide +kernel
theorem dX6_digest_46 : decode cX6_digest 46 = .ok (.invokevirtual 273, 3) := by decide +kernel
theorem dX6_digest_49 : decode cX6_digest 49 = .ok (.iinc 1 1, 3) := by decide +kernel
theorem dX6_digest_52 : decode cX6_digest 52 = .ok (.goto (-20), 3) := by decide +kernel
theorem dX6_digest_55 : decode cX6_digest 55 = .ok (.aload_n 0, 1) := by decide +kernel
theorem dX6_digest_56 : decode cX6_digest 56 = .ok (.iconst 0, 1) := by decide +kernel
theorem dX6_digest_57 : decode cX6_digest 57 = .ok (.invokevirtual 279, 3) := by decide +kernel
theorem dX6_digest_60 : decode cX6_digest 60 = .ok (.aload_n 0, 1) := by decide +kernel
theorem dX6_digest_61 : decode cX6_digest 61 = .ok (.iconst 1, 1) := by decide +kernel
theorem dX6_digest_62 : decode cX6_digest 62 = .ok (.invokevirtual 279, 3) := by decide +kernel
theorem dX6_digest_65 : decode cX6_digest 65 = .ok (.aload_n 0, 1) := by decide +kernel
theorem dX6_digest_66 : decode cX6_digest 66 = .ok (.aload_n 0, 1) := by decide +kernel
theorem dX6_digest_67 : decode cX6_digest 67 = .ok (.iconst 0, 1) := by decide +kernel
theorem dX6_digest_68 : decode cX6_digest 68 = .ok (.invokevirtual 223, 3) := by decide +kernel
theorem dX6_digest_71 : decode cX6_digest 71 = .ok (.invokevirtual 273, 3) := by decide +kernel
theorem dX6_digest_74 : decode cX6_digest 74 = .ok (.aload_n 0, 1) := by decide +kernel
theorem dX6_digest_75 : decode cX6_digest 75 = .ok (.aload_n 0, 1) := by decide +kernel
theorem dX6_digest_76 : decode cX6_digest 76 = .ok (.iconst 1, 1) := by decide +kernel
theorem dX6_digest_77 : decode cX6_digest 77 = .ok (.invokevirtual 223, 3) := by decide +kernel
theorem dX6_digest_80 : decode cX6_digest 80 = .ok (.invokevirtual 273, 3) := by decide +kernel
theorem dX6_digest_83 : decode cX6_digest 83 = .ok (.aload_n 0, 1) := by decide +kernel
theorem dX6_digest_84 : decode cX6_digest 84 = .ok (.getfield 269, 3) := by decide +kernel
theorem dX6_digest_87 : decode cX6_digest 87 = .ok (.lreturn, 1) := by decide +kernel
