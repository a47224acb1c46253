theorem dX2_init_0 : decode cX2_init 0 = .ok (.aload_n 0, 1) := by decide +kernel
theorem dX2_init_1 : decode cX2_init 1 = .ok (.invokespecial 3, 3) := by decide +kernel
theorem dX2_init_4 : decode cX2_init 4 = .ok (.aload_n 0, 1) := by decide +kernel
theorem dX2_init_5 : decode cX2_init 5 = .ok (.new 9, 3) := by decide +kernel
theorem dX2_init_8 : decode cX2_init 8 = .ok (.dup, 1) := by decide +kernel
theorem dX2_init_9 : decode cX2_init 9 = .ok (.invokespecial 11, 3) := by decide +kernel
theorem dX2_init_12 : decode cX2_init 12 = .ok (.putfield 12, 3) := by decide +kernel
theorem dX2_init_15 : decode cX2_init 15 = .ok (.aload_n 0, 1) := by decide +kernel
theorem dX2_init_16 : decode cX2_init 16 = .ok (.bipush 32, 2) := by decide +kernel
theorem dX2_init_18 : decode cX2_init 18 = .ok (.newarray .int, 2) := by decide +kernel
theorem dX2_init_20 : decode cX2_init 20 = .ok (.putfield 18, 3) := by decide +kernel
theorem dX2_init_23 : decode cX2_init 23 = .ok (.aload_n 0, 1) := by decide +kernel
theorem dX2_init_24 : decode cX2_init 24 = .ok (.bipush 32, 2) := by decide +kernel
theorem dX2_init_26 : decode cX2_init 26 = .ok (.newarray .int, 2) := by decide +kernel
theorem dX2_init_28 : decode cX2_init 28 = .ok (.putfield 22, 3) := by decide +kernel
theorem dX2_init_31 : decode cX2_init 31 = .ok (.aload_n 0, 1) := by decide +kernel
theorem dX2_init_32 : decode cX2_init 32 = .ok (.bipush 32, 2) := by decide +kernel
theorem dX2_init_34 : decode cX2_init 34 = .ok (.newarray .int, 2) := by decide +kernel
theorem dX2_init_36 : decode cX2_init 36 = .ok (.putfield 25, 3) := by decide +kernel
theorem dX2_init_39 : decode cX2_init 39 = .ok (.aload_n 0, 1) := by decide +kernel
theorem dX2_init_40 : decode cX2_init 40 = .ok (.iconst 3, 1) := by decide +kernel
theorem dX2_init_41 : decode cX2_init 41 = .ok (.newarray .int, 2) := by decide +kernel
theorem dX2_init_43 : decode cX2_init 43 = .ok (.putfield 28, 3) := by decide +kernel
theorem dX2_init_46 : decode cX2_init 46 = .ok (.aload_n 0, 1) := by decide +kernel
theorem dX2_init_47 : decode cX2_init 47 = .ok (.getfield 18, 3) := by decide +kernel
theorem dX2_init_50 : decode cX2_init 50 = .ok (.iconst (-1), 1) := by decide +kernel
theorem dX2_init_51 : decode cX2_init 51 = .ok (.invokestatic 31, 3) := by decide +kernel
theorem dX2_init_54 : decode cX2_init 54 = .ok (.return_, 1) := by decide +kernel
theorem dX2_forget_0 : decode cX2_forget 0 = .ok (.aload_n 0, 1) := by decide +kernel
theorem dX2_forget_1 : decode cX2_forget 1 = .ok (.getfield 18, 3) := by decide +kernel
theorem dX2_forget_4 : decode cX2_forget 4 = .ok (.iconst (-1), 1) := by decide +kernel
theorem dX2_forget_5 : decode cX2_forget 5 = .ok (.invokestatic 31, 3) := by decide +kernel
theorem dX2_forget_8 : decode cX2_forget 8 = .ok (.return_, 1) := by decide +kernel
theorem dX2_markOf_0 : decode cX2_markOf 0 = .ok (.iload_n 1, 1) := by decide +kernel
theorem dX2_markOf_1 : decode cX2_markOf 1 = .ok (.iconst 0, 1) := by decide +kernel
theorem dX2_markOf_2 : decode cX2_markOf 2 = .ok (.bipush 31, 2) := by decide +kernel
theorem dX2_markOf_4 : decode cX2_markOf 4 = .ok (.invokestatic 37, 3) := by decide +kernel
theorem dX2_markOf_7 : decode cX2_markOf 7 = .ok (.ifCond .ne 5, 3) := by decide +kernel
theorem dX2_markOf_10 : decode cX2_markOf 10 = .ok (.iconst 5, 1) := by decide +kernel
theorem dX2_markOf_11 : decode cX2_markOf 11 = .ok (.ireturn, 1) := by decide +kernel
theorem dX2_markOf_12 : decode cX2_markOf 12 = .ok (.aload_n 0, 1) := by decide +kernel
theorem dX2_markOf_13 : decode cX2_markOf 13 = .ok (.getfield 18, 3) := by decide +kernel
theorem dX2_markOf_16 : decode cX2_markOf 16 = .ok (.iload_n 1, 1) := by decide +kernel
theorem dX2_markOf_17 : decode cX2_markOf 17 = .ok (.iaload, 1) := by decide +kernel
theorem dX2_markOf_18 : decode cX2_markOf 18 = .ok (.iconst (-1), 1) := by decide +kernel
theorem dX2_markOf_19 : decode cX2_markOf 19 = .ok (.if_icmp .ne 29, 3) := by decide +kernel
theorem dX2_markOf_22 : decode cX2_markOf 22 = .ok (.aload_n 0, 1) := by decide +kernel
theorem dX2_markOf_23 : decode cX2_markOf 23 = .ok (.iload_n 1, 1) := by decide +kernel
theorem dX2_markOf_24 : decode cX2_markOf 24 = .ok (.invokevirtual 41, 3) := by decide +kernel
theorem dX2_markOf_27 : decode cX2_markOf 27 = .ok (.istore_n 2, 1) := by decide +kernel
theorem dX2_markOf_28 : decode cX2_markOf 28 = .ok (.aload_n 0, 1) := by decide +kernel
theorem dX2_markOf_29 : decode cX2_markOf 29 = .ok (.getfield 18, 3) := by decide +kernel
theorem dX2_markOf_32 : decode cX2_markOf 32 = .ok (.iload_n 1, 1) := by decide +kernel
theorem dX2_markOf_33 : decode cX2_markOf 33 = .ok (.iload_n 2, 1) := by decide +kernel
theorem dX2_markOf_34 : decode cX2_markOf 34 = .ok (.iconst 5, 1) := by decide +kernel
theorem dX2_markOf_35 : decode cX2_markOf 35 = .ok (.if_icmp .ne 11, 3) := by decide +kernel
theorem dX2_markOf_38 : decode cX2_markOf 38 = .ok (.aload_n 0, 1) := by decide +kernel
theorem dX2_markOf_39 : decode cX2_markOf 39 = .ok (.iload_n 1, 1) := by decide +kernel
theorem dX2_markOf_40 : decode cX2_markOf 40 = .ok (.invokevirtual 45, 3) := by decide +kernel
theorem dX2_markOf_43 : decode cX2_markOf 43 = .ok (.goto 4, 3) := by decide +kernel
theorem dX2_markOf_46 : decode cX2_markOf 46 = .ok (.iload_n 2, 1) := by decide +kernel
theorem dX2_markOf_47 : decode cX2_markOf 47 = .ok (.iastore, 1) := by decide +kernel
theorem dX2_markOf_48 : decode cX2_markOf 48 = .ok (.aload_n 0, 1) := by decide +kernel
theorem dX2_markOf_49 : decode cX2_markOf 49 = .ok (.getfield 18, 3) := by decide +kernel
theorem dX2_markOf_52 : decode cX2_markOf 52 = .ok (.iload_n 1, 1) := by decide +kernel
theorem dX2_markOf_53 : decode cX2_markOf 53 = .ok (.iaload, 1) := by decide +kernel
theorem dX2_markOf_54 : decode cX2_markOf 54 = .ok (.ireturn, 1) := by decide +kernel
theorem dX2_distanceOf_0 : decode cX2_distanceOf 0 = .ok (.aload_n 0, 1) := by decide +kernel
theorem dX2_distanceOf_1 : decode cX2_distanceOf 1 = .ok (.iload_n 1, 1) := by decide +kernel
theorem dX2_distanceOf_2 : decode cX2_distanceOf 2 = .ok (.invokevirtual 48, 3) := by decide +kernel
theorem dX2_distanceOf_5 : decode cX2_distanceOf 5 = .ok (.ifCond .ne 12, 3) := by decide +kernel
theorem dX2_distanceOf_8 : decode cX2_distanceOf 8 = .ok (.aload_n 0, 1) := by decide +kernel
theorem dX2_distanceOf_9 : decode cX2_distanceOf 9 = .ok (.getfield 22, 3) := by decide +kernel
theorem dX2_distanceOf_12 : decode cX2_distanceOf 12 = .ok (.iload_n 1, 1) := by decide +kernel
theorem dX2_distanceOf_13 : decode cX2_distanceOf 13 = .ok (.iaload, 1) := by decide +kernel
theorem dX2_distanceOf_14 : decode cX2_distanceOf 14 = .ok (.goto 6, 3) := by decide +kernel
theorem dX2_distanceOf_17 : decode cX2_distanceOf 17 = .ok (.sipush (-10001), 3) := by decide +kernel
theorem dX2_distanceOf_20 : decode cX2_distanceOf 20 = .ok (.ireturn, 1) := by decide +kernel
theorem dX2_nearOf_0 : decode cX2_nearOf 0 = .ok (.aload_n 0, 1) := by decide +kernel
theorem dX2_nearOf_1 : decode cX2_nearOf 1 = .ok (.iload_n 1, 1) := by decide +kernel
theorem dX2_nearOf_2 : decode cX2_nearOf 2 = .ok (.invokevirtual 48, 3) := by decide +kernel
theorem dX2_nearOf_5 : decode cX2_nearOf 5 = .ok (.iconst 4, 1) := by decide +kernel
theorem dX2_nearOf_6 : decode cX2_nearOf 6 = .ok (.if_icmp .ne 12, 3) := by decide +kernel
theorem dX2_nearOf_9 : decode cX2_nearOf 9 = .ok (.aload_n 0, 1) := by decide +kernel
theorem dX2_nearOf_10 : decode cX2_nearOf 10 = .ok (.getfield 22, 3) := by decide +kernel
theorem dX2_nearOf_13 : decode cX2_nearOf 13 = .ok (.iload_n 1, 1) := by decide +kernel
theorem dX2_nearOf_14 : decode cX2_nearOf 14 = .ok (.iaload, 1) := by decide +kernel
theorem dX2_nearOf_15 : decode cX2_nearOf 15 = .ok (.goto 6, 3) := by decide +kernel
theorem dX2_nearOf_18 : decode cX2_nearOf 18 = .ok (.sipush (-10001), 3) := by decide +kernel
theorem dX2_nearOf_21 : decode cX2_nearOf 21 = .ok (.ireturn, 1) := by decide +kernel
theorem dX2_beyondOf_0 : decode cX2_beyondOf 0 = .ok (.aload_n 0, 1) := by decide +kernel
theorem dX2_beyondOf_1 : decode cX2_beyondOf 1 = .ok (.iload_n 1, 1) := by decide +kernel
theorem dX2_beyondOf_2 : decode cX2_beyondOf 2 = .ok (.invokevirtual 48, 3) := by decide +kernel
theorem dX2_beyondOf_5 : decode cX2_beyondOf 5 = .ok (.iconst 4, 1) := by decide +kernel
theorem dX2_beyondOf_6 : decode cX2_beyondOf 6 = .ok (.if_icmp .ne 12, 3) := by decide +kernel
theorem dX2_beyondOf_9 : decode cX2_beyondOf 9 = .ok (.aload_n 0, 1) := by decide +kernel
theorem dX2_beyondOf_10 : decode cX2_beyondOf 10 = .ok (.getfield 25, 3) := by decide +kernel
theorem dX2_beyondOf_13 : decode cX2_beyondOf 13 = .ok (.iload_n 1, 1) := by decide +kernel
theorem dX2_beyondOf_14 : decode cX2_beyondOf 14 = .ok (.iaload, 1) := by decide +kernel
theorem dX2_beyondOf_15 : decode cX2_beyondOf 15 = .ok (.goto 6, 3) := by decide +kernel
theorem dX2_beyondOf_18 : decode cX2_beyondOf 18 = .ok (.sipush (-10001), 3) := by decide +kernel
theorem dX2_beyondOf_21 : decode cX2_beyondOf 21 = .ok (.ireturn, 1) := by decide +kernel
theorem dX2_reckon_0 : decode cX2_reckon 0 = .ok (.aload_n 0, 1) := by decide +kernel
theorem dX2_reckon_1 : decode cX2_reckon 1 = .ok (.getfield 12, 3) := by decide +kernel
theorem dX2_reckon_4 : decode cX2_reckon 4 = .ok (.iload_n 1, 1) := by decide +kernel
theorem dX2_reckon_5 : decode cX2_reckon 5 = .ok (.aload_n 0, 1) := by decide +kernel
theorem dX2_reckon_6 : decode cX2_reckon 6 = .ok (.getfield 12, 3) := by decide +kernel
theorem dX2_reckon_9 : decode cX2_reckon 9 = .ok (.getfield 51, 3) := by decide +kernel
theorem dX2_reckon_12 : decode cX2_reckon 12 = .ok (.iconst 2, 1) := by decide +kernel
theorem dX2_reckon_13 : decode cX2_reckon 13 = .ok (.iaload, 1) := by decide +kernel
theorem dX2_reckon_14 : decode cX2_reckon 14 = .ok (.invokevirtual 54, 3) := by decide +kernel
theorem dX2_reckon_17 : decode cX2_reckon 17 = .ok (.ifCond .le 5, 3) := by decide +kernel
theorem dX2_reckon_20 : decode cX2_reckon 20 = .ok (.iconst 1, 1) := by decide +kernel
theorem dX2_reckon_21 : decode cX2_reckon 21 = .ok (.ireturn, 1) := by decide +kernel
theorem dX2_reckon_22 : decode cX2_reckon 22 = .ok (.iconst 0, 1) := by decide +kernel
theorem dX2_reckon_23 : decode cX2_reckon 23 = .ok (.istore_n 2, 1) := by decide +kernel
theorem dX2_reckon_24 : decode cX2_reckon 24 = .ok (.iload_n 2, 1) := by decide +kernel
theorem dX2_reckon_25 : decode cX2_reckon 25 = .ok (.iconst 3, 1) := by decide +kernel
theorem dX2_reckon_26 : decode cX2_reckon 26 = .ok (.if_icmp .ge 85, 3) := by decide +kernel
theorem dX2_reckon_29 : decode cX2_reckon 29 = .ok (.aload_n 0, 1) := by decide +kernel
theorem dX2_reckon_30 : decode cX2_reckon 30 = .ok (.getfield 12, 3) := by decide +kernel
theorem dX2_reckon_33 : decode cX2_reckon 33 = .ok (.iload_n 1, 1) := by decide +kernel
theorem dX2_reckon_34 : decode cX2_reckon 34 = .ok (.iload_n 2, 1) := by decide +kernel
theorem dX2_reckon_35 : decode cX2_reckon 35 = .ok (.invokevirtual 58, 3) := by decide +kernel
theorem dX2_reckon_38 : decode cX2_reckon 38 = .ok (.istore_n 3, 1) := by decide +kernel
theorem dX2_reckon_39 : decode cX2_reckon 39 = .ok (.aload_n 0, 1) := by decide +kernel
theorem dX2_reckon_40 : decode cX2_reckon 40 = .ok (.getfield 12, 3) := by decide +kernel
theorem dX2_reckon_43 : decode cX2_reckon 43 = .ok (.iload_n 1, 1) := by decide +kernel
theorem dX2_reckon_44 : decode cX2_reckon 44 = .ok (.iload_n 2, 1) := by decide +kernel
theorem dX2_reckon_45 : decode cX2_reckon 45 = .ok (.invokevirtual 61, 3) := by decide +kernel
theorem dX2_reckon_48 : decode cX2_reckon 48 = .ok (.istore 4, 2) := by decide +kernel
theorem dX2_reckon_50 : decode cX2_reckon 50 = .ok (.aload_n 0, 1) := by decide +kernel
theorem dX2_reckon_51 : decode cX2_reckon 51 = .ok (.getfield 28, 3) := by decide +kernel
theorem dX2_reckon_54 : decode cX2_reckon 54 = .ok (.iload_n 2, 1) := by decide +kernel
theorem dX2_reckon_55 : decode cX2_reckon 55 = .ok (.iload_n 3, 1) := by decide +kernel
theorem dX2_reckon_56 : decode cX2_reckon 56 = .ok (.iload 4, 2) := by decide +kernel
theorem dX2_reckon_58 : decode cX2_reckon 58 = .ok (.aload_n 0, 1) := by decide +kernel
theorem dX2_reckon_59 : decode cX2_reckon 59 = .ok (.getfield 12, 3) := by decide +kernel
theorem dX2_reckon_62 : decode cX2_reckon 62 = .ok (.getfield 64, 3) := by decide +kernel
theorem dX2_reckon_65 : decode cX2_reckon 65 = .ok (.iload_n 2, 1) := by decide +kernel
theorem dX2_reckon_66 : decode cX2_reckon 66 = .ok (.iaload, 1) := by decide +kernel
theorem dX2_reckon_67 : decode cX2_reckon 67 = .ok (.invokestatic 67, 3) := by decide +kernel
theorem dX2_reckon_70 : decode cX2_reckon 70 = .ok (.iastore, 1) := by decide +kernel
theorem dX2_reckon_71 : decode cX2_reckon 71 = .ok (.aload_n 0, 1) := by decide +kernel
theorem dX2_reckon_72 : decode cX2_reckon 72 = .ok (.getfield 28, 3) := by decide +kernel
theorem dX2_reckon_75 : decode cX2_reckon 75 = .ok (.iload_n 2, 1) := by decide +kernel
theorem dX2_reckon_76 : decode cX2_reckon 76 = .ok (.iaload, 1) := by decide +kernel
theorem dX2_reckon_77 : decode cX2_reckon 77 = .ok (.sipush (-10001), 3) := by decide +kernel
theorem dX2_reckon_80 : decode cX2_reckon 80 = .ok (.if_icmp .eq 23, 3) := by decide +kernel
theorem dX2_reckon_83 : decode cX2_reckon 83 = .ok (.iload_n 3, 1) := by decide +kernel
theorem dX2_reckon_84 : decode cX2_reckon 84 = .ok (.iload 4, 2) := by decide +kernel
theorem dX2_reckon_86 : decode cX2_reckon 86 = .ok (.invokestatic 73, 3) := by decide +kernel
theorem dX2_reckon_89 : decode cX2_reckon 89 = .ok (.aload_n 0, 1) := by decide +kernel
theorem dX2_reckon_90 : decode cX2_reckon 90 = .ok (.getfield 12, 3) := by decide +kernel
theorem dX2_reckon_93 : decode cX2_reckon 93 = .ok (.getfield 51, 3) := by decide +kernel
theorem dX2_reckon_96 : decode cX2_reckon 96 = .ok (.iconst 1, 1) := by decide +kernel
theorem dX2_reckon_97 : decode cX2_reckon 97 = .ok (.iaload, 1) := by decide +kernel
theorem dX2_reckon_98 : decode cX2_reckon 98 = .ok (.i2f, 1) := by decide +kernel
theorem dX2_reckon_99 : decode cX2_reckon 99 = .ok (.fcmp .g, 1) := by decide +kernel
theorem dX2_reckon_100 : decode cX2_reckon 100 = .ok (.ifCond .ge 5, 3) := by decide +kernel
theorem dX2_reckon_103 : decode cX2_reckon 103 = .ok (.iconst 2, 1) := by decide +kernel
theorem dX2_reckon_104 : decode cX2_reckon 104 = .ok (.ireturn, 1) := by decide +kernel
theorem dX2_reckon_105 : decode cX2_reckon 105 = .ok (.iinc 2 1, 3) := by decide +kernel
theorem dX2_reckon_108 : decode cX2_reckon 108 = .ok (.goto (-84), 3) := by decide +kernel
theorem dX2_reckon_111 : decode cX2_reckon 111 = .ok (.aload_n 0, 1) := by decide +kernel
theorem dX2_reckon_112 : decode cX2_reckon 112 = .ok (.iconst (-1), 1) := by decide +kernel
theorem dX2_reckon_113 : decode cX2_reckon 113 = .ok (.invokevirtual 77, 3) := by decide +kernel
theorem dX2_reckon_116 : decode cX2_reckon 116 = .ok (.ifCond .ne 5, 3) := by decide +kernel
theorem dX2_reckon_119 : decode cX2_reckon 119 = .ok (.iconst 5, 1) := by decide +kernel
theorem dX2_reckon_120 : decode cX2_reckon 120 = .ok (.ireturn, 1) := by decide +kernel
theorem dX2_reckon_121 : decode cX2_reckon 121 = .ok (.aload_n 0, 1) := by decide +kernel
theorem dX2_reckon_122 : decode cX2_reckon 122 = .ok (.getfield 22, 3) := by decide +kernel
theorem dX2_reckon_125 : decode cX2_reckon 125 = .ok (.iload_n 1, 1) := by decide +kernel
theorem dX2_reckon_126 : decode cX2_reckon 126 = .ok (.aload_n 0, 1) := by decide +kernel
theorem dX2_reckon_127 : decode cX2_reckon 127 = .ok (.getfield 81, 3) := by decide +kernel
theorem dX2_reckon_130 : decode cX2_reckon 130 = .ok (.iastore, 1) := by decide +kernel
theorem dX2_reckon_131 : decode cX2_reckon 131 = .ok (.iconst 2, 1) := by decide +kernel
theorem dX2_reckon_132 : decode cX2_reckon 132 = .ok (.aload_n 0, 1) := by decide +kernel
theorem dX2_reckon_133 : decode cX2_reckon 133 = .ok (.getfield 12, 3) := by decide +kernel
theorem dX2_reckon_136 : decode cX2_reckon 136 = .ok (.getfield 51, 3) := by decide +kernel
theorem dX2_reckon_139 : decode cX2_reckon 139 = .ok (.iconst 0, 1) := by decide +kernel
theorem dX2_reckon_140 : decode cX2_reckon 140 = .ok (.iaload, 1) := by decide +kernel
theorem dX2_reckon_141 : decode cX2_reckon 141 = .ok (.imul, 1) := by decide +kernel
theorem dX2_reckon_142 : decode cX2_reckon 142 = .ok (.istore_n 2, 1) := by decide +kernel
theorem dX2_reckon_143 : decode cX2_reckon 143 = .ok (.aload_n 0, 1) := by decide +kernel
theorem dX2_reckon_144 : decode cX2_reckon 144 = .ok (.getfield 81, 3) := by decide +kernel
theorem dX2_reckon_147 : decode cX2_reckon 147 = .ok (.aload_n 0, 1) := by decide +kernel
theorem dX2_reckon_148 : decode cX2_reckon 148 = .ok (.getfield 85, 3) := by decide +kernel
theorem dX2_reckon_151 : decode cX2_reckon 151 = .ok (.isub, 1) := by decide +kernel
theorem dX2_reckon_152 : decode cX2_reckon 152 = .ok (.iload_n 2, 1) := by decide +kernel
theorem dX2_reckon_153 : decode cX2_reckon 153 = .ok (.if_icmp .gt 16, 3) := by decide +kernel
theorem dX2_reckon_156 : decode cX2_reckon 156 = .ok (.aload_n 0, 1) := by decide +kernel
theorem dX2_reckon_157 : decode cX2_reckon 157 = .ok (.getfield 88, 3) := by decide +kernel
theorem dX2_reckon_160 : decode cX2_reckon 160 = .ok (.aload_n 0, 1) := by decide +kernel
theorem dX2_reckon_161 : decode cX2_reckon 161 = .ok (.getfield 81, 3) := by decide +kernel
theorem dX2_reckon_164 : decode cX2_reckon 164 = .ok (.isub, 1) := by decide +kernel
theorem dX2_reckon_165 : decode cX2_reckon 165 = .ok (.iload_n 2, 1) := by decide +kernel
theorem dX2_reckon_166 : decode cX2_reckon 166 = .ok (.if_icmp .le 7, 3) := by decide +kernel
theorem dX2_reckon_169 : decode cX2_reckon 169 = .ok (.iconst 3, 1) := by decide +kernel
theorem dX2_reckon_170 : decode cX2_reckon 170 = .ok (.goto 4, 3) := by decide +kernel
theorem dX2_reckon_173 : decode cX2_reckon 173 = .ok (.iconst 0, 1) := by decide +kernel
theorem dX2_reckon_174 : decode cX2_reckon 174 = .ok (.ireturn, 1) := by decide +kernel
theorem dX2_reckonPairs_0 : decode cX2_reckonPairs 0 = .ok (.sipush (-10001), 3) := by decide +kernel
theorem dX2_reckonPairs_3 : decode cX2_reckonPairs 3 = .ok (.istore_n 2, 1) := by decide +kernel
theorem dX2_reckonPairs_4 : decode cX2_reckonPairs 4 = .ok (.sipush (-10001), 3) := by decide +kernel
theorem dX2_reckonPairs_7 : decode cX2_reckonPairs 7 = .ok (.istore_n 3, 1) := by decide +kernel
theorem dX2_reckonPairs_8 : decode cX2_reckonPairs 8 = .ok (.iconst 0, 1) := by decide +kernel
theorem dX2_reckonPairs_9 : decode cX2_reckonPairs 9 = .ok (.istore 4, 2) := by decide +kernel
theorem dX2_reckonPairs_11 : decode cX2_reckonPairs 11 = .ok (.iload 4, 2) := by decide +kernel
theorem dX2_reckonPairs_13 : decode cX2_reckonPairs 13 = .ok (.iconst 3, 1) := by decide +kernel
theorem dX2_reckonPairs_14 : decode cX2_reckonPairs 14 = .ok (.if_icmp .ge 50, 3) := by decide +kernel
theorem dX2_reckonPairs_17 : decode cX2_reckonPairs 17 = .ok (.aload_n 0, 1) := by decide +kernel
theorem dX2_reckonPairs_18 : decode cX2_reckonPairs 18 = .ok (.iload 4, 2) := by decide +kernel
theorem dX2_reckonPairs_20 : decode cX2_reckonPairs 20 = .ok (.invokevirtual 77, 3) := by decide +kernel
theorem dX2_reckonPairs_23 : decode cX2_reckonPairs 23 = .ok (.ifCond .eq 35, 3) := by decide +kernel
theorem dX2_reckonPairs_26 : decode cX2_reckonPairs 26 = .ok (.iload_n 2, 1) := by decide +kernel
theorem dX2_reckonPairs_27 : decode cX2_reckonPairs 27 = .ok (.sipush (-10001), 3) := by decide +kernel
theorem dX2_reckonPairs_30 : decode cX2_reckonPairs 30 = .ok (.if_icmp .ne 10, 3) := by decide +kernel
theorem dX2_reckonPairs_33 : decode cX2_reckonPairs 33 = .ok (.aload_n 0, 1) := by decide +kernel
theorem dX2_reckonPairs_34 : decode cX2_reckonPairs 34 = .ok (.getfield 81, 3) := by decide +kernel
theorem dX2_reckonPairs_37 : decode cX2_reckonPairs 37 = .ok (.goto 11, 3) := by decide +kernel
theorem dX2_reckonPairs_40 : decode cX2_reckonPairs 40 = .ok (.iload_n 2, 1) := by decide +kernel
theorem dX2_reckonPairs_41 : decode cX2_reckonPairs 41 = .ok (.aload_n 0, 1) := by decide +kernel
theorem dX2_reckonPairs_42 : decode cX2_reckonPairs 42 = .ok (.getfield 81, 3) := by decide +kernel
theorem dX2_reckonPairs_45 : decode cX2_reckonPairs 45 = .ok (.invokestatic 91, 3) := by decide +kernel
theorem dX2_reckonPairs_48 : decode cX2_reckonPairs 48 = .ok (.istore_n 2, 1) := by decide +kernel
theorem dX2_reckonPairs_49 : decode cX2_reckonPairs 49 = .ok (.iload_n 3, 1) := by decide +kernel
theorem dX2_reckonPairs_50 : decode cX2_reckonPairs 50 = .ok (.aload_n 0, 1) := by decide +kernel
theorem dX2_reckonPairs_51 : decode cX2_reckonPairs 51 = .ok (.getfield 81, 3) := by decide +kernel
theorem dX2_reckonPairs_54 : decode cX2_reckonPairs 54 = .ok (.invokestatic 96, 3) := by decide +kernel
theorem dX2_reckonPairs_57 : decode cX2_reckonPairs 57 = .ok (.istore_n 3, 1) := by decide +kernel
theorem dX2_reckonPairs_58 : decode cX2_reckonPairs 58 = .ok (.iinc 4 1, 3) := by decide +kernel
theorem dX2_reckonPairs_61 : decode cX2_reckonPairs 61 = .ok (.goto (-50), 3) := by decide +kernel
theorem dX2_reckonPairs_64 : decode cX2_reckonPairs 64 = .ok (.aload_n 0, 1) := by decide +kernel
theorem dX2_reckonPairs_65 : decode cX2_reckonPairs 65 = .ok (.getfield 22, 3) := by decide +kernel
theorem dX2_reckonPairs_68 : decode cX2_reckonPairs 68 = .ok (.iload_n 1, 1) := by decide +kernel
theorem dX2_reckonPairs_69 : decode cX2_reckonPairs 69 = .ok (.iload_n 2, 1) := by decide +kernel
theorem dX2_reckonPairs_70 : decode cX2_reckonPairs 70 = .ok (.iastore, 1) := by decide +kernel
theorem dX2_reckonPairs_71 : decode cX2_reckonPairs 71 = .ok (.aload_n 0, 1) := by decide +kernel
theorem dX2_reckonPairs_72 : decode cX2_reckonPairs 72 = .ok (.getfield 25, 3) := by decide +kernel
theorem dX2_reckonPairs_75 : decode cX2_reckonPairs 75 = .ok (.iload_n 1, 1) := by decide +kernel
theorem dX2_reckonPairs_76 : decode cX2_reckonPairs 76 = .ok (.iload_n 3, 1) := by decide +kernel
theorem dX2_reckonPairs_77 : decode cX2_reckonPairs 77 = .ok (.iastore, 1) := by decide +kernel
theorem dX2_reckonPairs_78 : decode cX2_reckonPairs 78 = .ok (.iload_n 2, 1) := by decide +kernel
theorem dX2_reckonPairs_79 : decode cX2_reckonPairs 79 = .ok (.sipush (-10001), 3) := by decide +kernel
theorem dX2_reckonPairs_82 : decode cX2_reckonPairs 82 = .ok (.if_icmp .ne 7, 3) := by decide +kernel
theorem dX2_reckonPairs_85 : decode cX2_reckonPairs 85 = .ok (.iconst 5, 1) := by decide +kernel
theorem dX2_reckonPairs_86 : decode cX2_reckonPairs 86 = .ok (.goto 4, 3) := by decide +kernel
theorem dX2_reckonPairs_89 : decode cX2_reckonPairs 89 = .ok (.iconst 4, 1) := by decide +kernel
theorem dX2_reckonPairs_90 : decode cX2_reckonPairs 90 = .ok (.ireturn, 1) := by decide +kernel
theorem dX2_search_0 : decode cX2_search 0 = .ok (.aload_n 0, 1) := by decide +kernel
theorem dX2_search_1 : decode cX2_search 1 = .ok (.sipush (-10001), 3) := by decide +kernel
theorem dX2_search_4 : decode cX2_search 4 = .ok (.putfield 85, 3) := by decide +kernel
theorem dX2_search_7 : decode cX2_search 7 = .ok (.iconst 4, 1) := by decide +kernel
theorem dX2_search_8 : decode cX2_search 8 = .ok (.aload_n 0, 1) := by decide +kernel
theorem dX2_search_9 : decode cX2_search 9 = .ok (.getfield 12, 3) := by decide +kernel
theorem dX2_search_12 : decode cX2_search 12 = .ok (.getfield 51, 3) := by decide +kernel
theorem dX2_search_15 : decode cX2_search 15 = .ok (.iconst 0, 1) := by decide +kernel
theorem dX2_search_16 : decode cX2_search 16 = .ok (.iaload, 1) := by decide +kernel
theorem dX2_search_17 : decode cX2_search 17 = .ok (.imul, 1) := by decide +kernel
theorem dX2_search_18 : decode cX2_search 18 = .ok (.istore_n 2, 1) := by decide +kernel
theorem dX2_search_19 : decode cX2_search 19 = .ok (.ldc 101, 2) := by decide +kernel
theorem dX2_search_21 : decode cX2_search 21 = .ok (.istore_n 3, 1) := by decide +kernel
theorem dX2_search_22 : decode cX2_search 22 = .ok (.iconst 0, 1) := by decide +kernel
theorem dX2_search_23 : decode cX2_search 23 = .ok (.istore 4, 2) := by decide +kernel
theorem dX2_search_25 : decode cX2_search 25 = .ok (.iload 4, 2) := by decide +kernel
theorem dX2_search_27 : decode cX2_search 27 = .ok (.aload_n 0, 1) := by decide +kernel
theorem dX2_search_28 : decode cX2_search 28 = .ok (.getfield 12, 3) := by decide +kernel
theorem dX2_search_31 : decode cX2_search 31 = .ok (.getfield 51, 3) := by decide +kernel
theorem dX2_search_34 : decode cX2_search 34 = .ok (.iconst 3, 1) := by decide +kernel
theorem dX2_search_35 : decode cX2_search 35 = .ok (.iaload, 1) := by decide +kernel
theorem dX2_search_36 : decode cX2_search 36 = .ok (.if_icmp .gt 116, 3) := by decide +kernel
theorem dX2_search_39 : decode cX2_search 39 = .ok (.aload_n 0, 1) := by decide +kernel
theorem dX2_search_40 : decode cX2_search 40 = .ok (.iload 4, 2) := by decide +kernel
theorem dX2_search_42 : decode cX2_search 42 = .ok (.iload_n 1, 1) := by decide +kernel
theorem dX2_search_43 : decode cX2_search 43 = .ok (.invokevirtual 102, 3) := by decide +kernel
theorem dX2_search_46 : decode cX2_search 46 = .ok (.istore 5, 2) := by decide +kernel
theorem dX2_search_48 : decode cX2_search 48 = .ok (.iload 5, 2) := by decide +kernel
theorem dX2_search_50 : decode cX2_search 50 = .ok (.ifCond .le 15, 3) := by decide +kernel
theorem dX2_search_53 : decode cX2_search 53 = .ok (.iload 4, 2) := by decide +kernel
theorem dX2_search_55 : decode cX2_search 55 = .ok (.iload 5, 2) := by decide +kernel
theorem dX2_search_57 : decode cX2_search 57 = .ok (.iconst 1, 1) := by decide +kernel
theorem dX2_search_58 : decode cX2_search 58 = .ok (.isub, 1) := by decide +kernel
theorem dX2_search_59 : decode cX2_search 59 = .ok (.iadd, 1) := by decide +kernel
theorem dX2_search_60 : decode cX2_search 60 = .ok (.istore 4, 2) := by decide +kernel
theorem dX2_search_62 : decode cX2_search 62 = .ok (.goto 84, 3) := by decide +kernel
theorem dX2_search_65 : decode cX2_search 65 = .ok (.aload_n 0, 1) := by decide +kernel
theorem dX2_search_66 : decode cX2_search 66 = .ok (.iload 4, 2) := by decide +kernel
theorem dX2_search_68 : decode cX2_search 68 = .ok (.iload_n 1, 1) := by decide +kernel
theorem dX2_search_69 : decode cX2_search 69 = .ok (.invokevirtual 105, 3) := by decide +kernel
theorem dX2_search_72 : decode cX2_search 72 = .ok (.istore 6, 2) := by decide +kernel
theorem dX2_search_74 : decode cX2_search 74 = .ok (.iload 6, 2) := by decide +kernel
theorem dX2_search_76 : decode cX2_search 76 = .ok (.iload_n 3, 1) := by decide +kernel
theorem dX2_search_77 : decode cX2_search 77 = .ok (.if_icmp .ge 12, 3) := by decide +kernel
theorem dX2_search_80 : decode cX2_search 80 = .ok (.iload 6, 2) := by decide +kernel
theorem dX2_search_82 : decode cX2_search 82 = .ok (.istore_n 3, 1) := by decide +kernel
theorem dX2_search_83 : decode cX2_search 83 = .ok (.aload_n 0, 1) := by decide +kernel
theorem dX2_search_84 : decode cX2_search 84 = .ok (.iload 4, 2) := by decide +kernel
theorem dX2_search_86 : decode cX2_search 86 = .ok (.putfield 81, 3) := by decide +kernel
theorem dX2_search_89 : decode cX2_search 89 = .ok (.aload_n 0, 1) := by decide +kernel
theorem dX2_search_90 : decode cX2_search 90 = .ok (.aload_n 0, 1) := by decide +kernel
theorem dX2_search_91 : decode cX2_search 91 = .ok (.getfield 85, 3) := by decide +kernel
theorem dX2_search_94 : decode cX2_search 94 = .ok (.sipush (-10001), 3) := by decide +kernel
theorem dX2_search_97 : decode cX2_search 97 = .ok (.if_icmp .ne 8, 3) := by decide +kernel
theorem dX2_search_100 : decode cX2_search 100 = .ok (.iload 4, 2) := by decide +kernel
theorem dX2_search_102 : decode cX2_search 102 = .ok (.goto 7, 3) := by decide +kernel
theorem dX2_search_105 : decode cX2_search 105 = .ok (.aload_n 0, 1) := by decide +kernel
theorem dX2_search_106 : decode cX2_search 106 = .ok (.getfield 85, 3) := by decide +kernel
theorem dX2_search_109 : decode cX2_search 109 = .ok (.putfield 85, 3) := by decide +kernel
theorem dX2_search_112 : decode cX2_search 112 = .ok (.aload_n 0, 1) := by decide +kernel
theorem dX2_search_113 : decode cX2_search 113 = .ok (.iload 4, 2) := by decide +kernel
theorem dX2_search_115 : decode cX2_search 115 = .ok (.putfield 88, 3) := by decide +kernel
theorem dX2_search_118 : decode cX2_search 118 = .ok (.iload_n 1, 1) := by decide +kernel
theorem dX2_search_119 : decode cX2_search 119 = .ok (.iconst (-1), 1) := by decide +kernel
theorem dX2_search_120 : decode cX2_search 120 = .ok (.if_icmp .ne 19, 3) := by decide +kernel
theorem dX2_search_123 : decode cX2_search 123 = .ok (.aload_n 0, 1) := by decide +kernel
theorem dX2_search_124 : decode cX2_search 124 = .ok (.getfield 88, 3) := by decide +kernel
theorem dX2_search_127 : decode cX2_search 127 = .ok (.aload_n 0, 1) := by decide +kernel
theorem dX2_search_128 : decode cX2_search 128 = .ok (.getfield 85, 3) := by decide +kernel
theorem dX2_search_131 : decode cX2_search 131 = .ok (.isub, 1) := by decide +kernel
theorem dX2_search_132 : decode cX2_search 132 = .ok (.iload_n 2, 1) := by decide +kernel
theorem dX2_search_133 : decode cX2_search 133 = .ok (.if_icmp .le 13, 3) := by decide +kernel
theorem dX2_search_136 : decode cX2_search 136 = .ok (.goto 16, 3) := by decide +kernel
theorem dX2_search_139 : decode cX2_search 139 = .ok (.iload_n 3, 1) := by decide +kernel
theorem dX2_search_140 : decode cX2_search 140 = .ok (.ifCond .ne 6, 3) := by decide +kernel
theorem dX2_search_143 : decode cX2_search 143 = .ok (.goto 9, 3) := by decide +kernel
theorem dX2_search_146 : decode cX2_search 146 = .ok (.iinc 4 1, 3) := by decide +kernel
theorem dX2_search_149 : decode cX2_search 149 = .ok (.goto (-124), 3) := by decide +kernel
theorem dX2_search_152 : decode cX2_search 152 = .ok (.aload_n 0, 1) := by decide +kernel
theorem dX2_search_153 : decode cX2_search 153 = .ok (.getfield 85, 3) := by decide +kernel
theorem dX2_search_156 : decode cX2_search 156 = .ok (.sipush (-10001), 3) := by decide +kernel
theorem dX2_search_159 : decode cX2_search 159 = .ok (.if_icmp .eq 7, 3) := by decide +kernel
theorem dX2_search_162 : decode cX2_search 162 = .ok (.iconst 1, 1) := by decide +kernel
theorem dX2_search_163 : decode cX2_search 163 = .ok (.goto 4, 3) := by decide +kernel
theorem dX2_search_166 : decode cX2_search 166 = .ok (.iconst 0, 1) := by decide +kernel
theorem dX2_search_167 : decode cX2_search 167 = .ok (.ireturn, 1) := by decide +kernel
theorem dX2_widestGap_0 : decode cX2_widestGap 0 = .ok (.iconst 0, 1) := by decide +kernel
theorem dX2_widestGap_1 : decode cX2_widestGap 1 = .ok (.istore_n 3, 1) := by decide +kernel
theorem dX2_widestGap_2 : decode cX2_widestGap 2 = .ok (.iconst 0, 1) := by decide +kernel
theorem dX2_widestGap_3 : decode cX2_widestGap 3 = .ok (.istore 4, 2) := by decide +kernel
theorem dX2_widestGap_5 : decode cX2_widestGap 5 = .ok (.iload 4, 2) := by decide +kernel
theorem dX2_widestGap_7 : decode cX2_widestGap 7 = .ok (.iconst 3, 1) := by decide +kernel
theorem dX2_widestGap_8 : decode cX2_widestGap 8 = .ok (.if_icmp .ge 50, 3) := by decide +kernel
theorem dX2_widestGap_11 : decode cX2_widestGap 11 = .ok (.iload 4, 2) := by decide +kernel
theorem dX2_widestGap_13 : decode cX2_widestGap 13 = .ok (.iload_n 2, 1) := by decide +kernel
theorem dX2_widestGap_14 : decode cX2_widestGap 14 = .ok (.if_icmp .eq 38, 3) := by decide +kernel
theorem dX2_widestGap_17 : decode cX2_widestGap 17 = .ok (.iload_n 3, 1) := by decide +kernel
theorem dX2_widestGap_18 : decode cX2_widestGap 18 = .ok (.iload_n 1, 1) := by decide +kernel
theorem dX2_widestGap_19 : decode cX2_widestGap 19 = .ok (.aload_n 0, 1) := by decide +kernel
theorem dX2_widestGap_20 : decode cX2_widestGap 20 = .ok (.getfield 28, 3) := by decide +kernel
theorem dX2_widestGap_23 : decode cX2_widestGap 23 = .ok (.iload 4, 2) := by decide +kernel
theorem dX2_widestGap_25 : decode cX2_widestGap 25 = .ok (.iaload, 1) := by decide +kernel
theorem dX2_widestGap_26 : decode cX2_widestGap 26 = .ok (.aload_n 0, 1) := by decide +kernel
theorem dX2_widestGap_27 : decode cX2_widestGap 27 = .ok (.getfield 12, 3) := by decide +kernel
theorem dX2_widestGap_30 : decode cX2_widestGap 30 = .ok (.getfield 64, 3) := by decide +kernel
theorem dX2_widestGap_33 : decode cX2_widestGap 33 = .ok (.iload 4, 2) := by decide +kernel
theorem dX2_widestGap_35 : decode cX2_widestGap 35 = .ok (.iaload, 1) := by decide +kernel
theorem dX2_widestGap_36 : decode cX2_widestGap 36 = .ok (.aload_n 0, 1) := by decide +kernel
theorem dX2_widestGap_37 : decode cX2_widestGap 37 = .ok (.getfield 12, 3) := by decide +kernel
theorem dX2_widestGap_40 : decode cX2_widestGap 40 = .ok (.getfield 51, 3) := by decide +kernel
theorem dX2_widestGap_43 : decode cX2_widestGap 43 = .ok (.iconst 0, 1) := by decide +kernel
theorem dX2_widestGap_44 : decode cX2_widestGap 44 = .ok (.iaload, 1) := by decide +kernel
theorem dX2_widestGap_45 : decode cX2_widestGap 45 = .ok (.invokestatic 108, 3) := by decide +kernel
theorem dX2_widestGap_48 : decode cX2_widestGap 48 = .ok (.invokestatic 96, 3) := by decide +kernel
theorem dX2_widestGap_51 : decode cX2_widestGap 51 = .ok (.istore_n 3, 1) := by decide +kernel
theorem dX2_widestGap_52 : decode cX2_widestGap 52 = .ok (.iinc 4 1, 3) := by decide +kernel
theorem dX2_widestGap_55 : decode cX2_widestGap 55 = .ok (.goto (-50), 3) := by decide +kernel
theorem dX2_widestGap_58 : decode cX2_widestGap 58 = .ok (.iload_n 3, 1) := by decide +kernel
theorem dX2_widestGap_59 : decode cX2_widestGap 59 = .ok (.ireturn, 1) := by decide +kernel
theorem dX2_misfit_0 : decode cX2_misfit 0 = .ok (.iconst 0, 1) := by decide +kernel
theorem dX2_misfit_1 : decode cX2_misfit 1 = .ok (.istore_n 3, 1) := by decide +kernel
theorem dX2_misfit_2 : decode cX2_misfit 2 = .ok (.iconst 0, 1) := by decide +kernel
theorem dX2_misfit_3 : decode cX2_misfit 3 = .ok (.istore 4, 2) := by decide +kernel
theorem dX2_misfit_5 : decode cX2_misfit 5 = .ok (.iload 4, 2) := by decide +kernel
theorem dX2_misfit_7 : decode cX2_misfit 7 = .ok (.iconst 3, 1) := by decide +kernel
theorem dX2_misfit_8 : decode cX2_misfit 8 = .ok (.if_icmp .ge 46, 3) := by decide +kernel
theorem dX2_misfit_11 : decode cX2_misfit 11 = .ok (.iload 4, 2) := by decide +kernel
theorem dX2_misfit_13 : decode cX2_misfit 13 = .ok (.iload_n 2, 1) := by decide +kernel
theorem dX2_misfit_14 : decode cX2_misfit 14 = .ok (.if_icmp .eq 34, 3) := by decide +kernel
theorem dX2_misfit_17 : decode cX2_misfit 17 = .ok (.iload_n 1, 1) := by decide +kernel
theorem dX2_misfit_18 : decode cX2_misfit 18 = .ok (.aload_n 0, 1) := by decide +kernel
theorem dX2_misfit_19 : decode cX2_misfit 19 = .ok (.getfield 28, 3) := by decide +kernel
theorem dX2_misfit_22 : decode cX2_misfit 22 = .ok (.iload 4, 2) := by decide +kernel
theorem dX2_misfit_24 : decode cX2_misfit 24 = .ok (.iaload, 1) := by decide +kernel
theorem dX2_misfit_25 : decode cX2_misfit 25 = .ok (.aload_n 0, 1) := by decide +kernel
theorem dX2_misfit_26 : decode cX2_misfit 26 = .ok (.getfield 12, 3) := by decide +kernel
theorem dX2_misfit_29 : decode cX2_misfit 29 = .ok (.getfield 64, 3) := by decide +kernel
theorem dX2_misfit_32 : decode cX2_misfit 32 = .ok (.iload 4, 2) := by decide +kernel
theorem dX2_misfit_34 : decode cX2_misfit 34 = .ok (.iaload, 1) := by decide +kernel
theorem dX2_misfit_35 : decode cX2_misfit 35 = .ok (.invokestatic 112, 3) := by decide +kernel
theorem dX2_misfit_38 : decode cX2_misfit 38 = .ok (.istore 5, 2) := by decide +kernel
theorem dX2_misfit_40 : decode cX2_misfit 40 = .ok (.iload_n 3, 1) := by decide +kernel
theorem dX2_misfit_41 : decode cX2_misfit 41 = .ok (.iload 5, 2) := by decide +kernel
theorem dX2_misfit_43 : decode cX2_misfit 43 = .ok (.iload 5, 2) := by decide +kernel
theorem dX2_misfit_45 : decode cX2_misfit 45 = .ok (.imul, 1) := by decide +kernel
theorem dX2_misfit_46 : decode cX2_misfit 46 = .ok (.iadd, 1) := by decide +kernel
theorem dX2_misfit_47 : decode cX2_misfit 47 = .ok (.istore_n 3, 1) := by decide +kernel
theorem dX2_misfit_48 : decode cX2_misfit 48 = .ok (.iinc 4 1, 3) := by decide +kernel
theorem dX2_misfit_51 : decode cX2_misfit 51 = .ok (.goto (-46), 3) := by decide +kernel
theorem dX2_misfit_54 : decode cX2_misfit 54 = .ok (.iload_n 3, 1) := by decide +kernel
theorem dX2_misfit_55 : decode cX2_misfit 55 = .ok (.ireturn, 1) := by decide +kernel
theorem dX2_filled_0 : decode cX2_filled 0 = .ok (.aload_n 0, 1) := by decide +kernel
theorem dX2_filled_1 : decode cX2_filled 1 = .ok (.getfield 12, 3) := by decide +kernel
theorem dX2_filled_4 : decode cX2_filled 4 = .ok (.aload_n 0, 1) := by decide +kernel
theorem dX2_filled_5 : decode cX2_filled 5 = .ok (.getfield 12, 3) := by decide +kernel
theorem dX2_filled_8 : decode cX2_filled 8 = .ok (.iload_n 1, 1) := by decide +kernel
theorem dX2_filled_9 : decode cX2_filled 9 = .ok (.iload_n 2, 1) := by decide +kernel
theorem dX2_filled_10 : decode cX2_filled 10 = .ok (.iload_n 3, 1) := by decide +kernel
theorem dX2_filled_11 : decode cX2_filled 11 = .ok (.invokevirtual 115, 3) := by decide +kernel
theorem dX2_filled_14 : decode cX2_filled 14 = .ok (.invokevirtual 118, 3) := by decide +kernel
theorem dX2_filled_17 : decode cX2_filled 17 = .ok (.fstore 4, 2) := by decide +kernel
theorem dX2_filled_19 : decode cX2_filled 19 = .ok (.aload_n 0, 1) := by decide +kernel
theorem dX2_filled_20 : decode cX2_filled 20 = .ok (.getfield 12, 3) := by decide +kernel
theorem dX2_filled_23 : decode cX2_filled 23 = .ok (.getfield 51, 3) := by decide +kernel
theorem dX2_filled_26 : decode cX2_filled 26 = .ok (.iconst 4, 1) := by decide +kernel
theorem dX2_filled_27 : decode cX2_filled 27 = .ok (.iaload, 1) := by decide +kernel
theorem dX2_filled_28 : decode cX2_filled 28 = .ok (.istore 5, 2) := by decide +kernel
theorem dX2_filled_30 : decode cX2_filled 30 = .ok (.fconst 0, 1) := by decide +kernel
theorem dX2_filled_31 : decode cX2_filled 31 = .ok (.fstore 6, 2) := by decide +kernel
theorem dX2_filled_33 : decode cX2_filled 33 = .ok (.fconst 0, 1) := by decide +kernel
theorem dX2_filled_34 : decode cX2_filled 34 = .ok (.fstore 7, 2) := by decide +kernel
theorem dX2_filled_36 : decode cX2_filled 36 = .ok (.iconst 0, 1) := by decide +kernel
theorem dX2_filled_37 : decode cX2_filled 37 = .ok (.istore 8, 2) := by decide +kernel
theorem dX2_filled_39 : decode cX2_filled 39 = .ok (.iload 8, 2) := by decide +kernel
theorem dX2_filled_41 : decode cX2_filled 41 = .ok (.getstatic 122, 3) := by decide +kernel
theorem dX2_filled_44 : decode cX2_filled 44 = .ok (.arraylength, 1) := by decide +kernel
theorem dX2_filled_45 : decode cX2_filled 45 = .ok (.if_icmp .ge 136, 3) := by decide +kernel
theorem dX2_filled_48 : decode cX2_filled 48 = .ok (.aload_n 0, 1) := by decide +kernel
theorem dX2_filled_49 : decode cX2_filled 49 = .ok (.getfield 12, 3) := by decide +kernel
theorem dX2_filled_52 : decode cX2_filled 52 = .ok (.iload_n 1, 1) := by decide +kernel
theorem dX2_filled_53 : decode cX2_filled 53 = .ok (.iload_n 2, 1) := by decide +kernel
theorem dX2_filled_54 : decode cX2_filled 54 = .ok (.getstatic 122, 3) := by decide +kernel
theorem dX2_filled_57 : decode cX2_filled 57 = .ok (.iload 8, 2) := by decide +kernel
theorem dX2_filled_59 : decode cX2_filled 59 = .ok (.iaload, 1) := by decide +kernel
theorem dX2_filled_60 : decode cX2_filled 60 = .ok (.iadd, 1) := by decide +kernel
theorem dX2_filled_61 : decode cX2_filled 61 = .ok (.iload_n 3, 1) := by decide +kernel
theorem dX2_filled_62 : decode cX2_filled 62 = .ok (.getstatic 125, 3) := by decide +kernel
theorem dX2_filled_65 : decode cX2_filled 65 = .ok (.iload 8, 2) := by decide +kernel
theorem dX2_filled_67 : decode cX2_filled 67 = .ok (.iaload, 1) := by decide +kernel
theorem dX2_filled_68 : decode cX2_filled 68 = .ok (.iadd, 1) := by decide +kernel
theorem dX2_filled_69 : decode cX2_filled 69 = .ok (.invokevirtual 115, 3) := by decide +kernel
theorem dX2_filled_72 : decode cX2_filled 72 = .ok (.istore 9, 2) := by decide +kernel
theorem dX2_filled_74 : decode cX2_filled 74 = .ok (.iload 9, 2) := by decide +kernel
theorem dX2_filled_76 : decode cX2_filled 76 = .ok (.ifCond .lt 99, 3) := by decide +kernel
theorem dX2_filled_79 : decode cX2_filled 79 = .ok (.iload 5, 2) := by decide +kernel
theorem dX2_filled_81 : decode cX2_filled 81 = .ok (.iconst 1, 1) := by decide +kernel
theorem dX2_filled_82 : decode cX2_filled 82 = .ok (.if_icmp .lt 93, 3) := by decide +kernel
theorem dX2_filled_85 : decode cX2_filled 85 = .ok (.aload_n 0, 1) := by decide +kernel
theorem dX2_filled_86 : decode cX2_filled 86 = .ok (.iload 9, 2) := by decide +kernel
theorem dX2_filled_88 : decode cX2_filled 88 = .ok (.invokevirtual 48, 3) := by decide +kernel
theorem dX2_filled_91 : decode cX2_filled 91 = .ok (.ifCond .eq 6, 3) := by decide +kernel
theorem dX2_filled_94 : decode cX2_filled 94 = .ok (.goto 81, 3) := by decide +kernel
theorem dX2_filled_97 : decode cX2_filled 97 = .ok (.aload_n 0, 1) := by decide +kernel
theorem dX2_filled_98 : decode cX2_filled 98 = .ok (.getfield 12, 3) := by decide +kernel
theorem dX2_filled_101 : decode cX2_filled 101 = .ok (.iload 9, 2) := by decide +kernel
theorem dX2_filled_103 : decode cX2_filled 103 = .ok (.invokevirtual 118, 3) := by decide +kernel
theorem dX2_filled_106 : decode cX2_filled 106 = .ok (.fload 4, 2) := by decide +kernel
theorem dX2_filled_108 : decode cX2_filled 108 = .ok (.fsub, 1) := by decide +kernel
theorem dX2_filled_109 : decode cX2_filled 109 = .ok (.fstore 10, 2) := by decide +kernel
theorem dX2_filled_111 : decode cX2_filled 111 = .ok (.fload 10, 2) := by decide +kernel
theorem dX2_filled_113 : decode cX2_filled 113 = .ok (.fconst 0, 1) := by decide +kernel
theorem dX2_filled_114 : decode cX2_filled 114 = .ok (.fcmp .g, 1) := by decide +kernel
theorem dX2_filled_115 : decode cX2_filled 115 = .ok (.ifCond .ge 9, 3) := by decide +kernel
theorem dX2_filled_118 : decode cX2_filled 118 = .ok (.fload 10, 2) := by decide +kernel
theorem dX2_filled_120 : decode cX2_filled 120 = .ok (.fneg, 1) := by decide +kernel
theorem dX2_filled_121 : decode cX2_filled 121 = .ok (.goto 5, 3) := by decide +kernel
theorem dX2_filled_124 : decode cX2_filled 124 = .ok (.fload 10, 2) := by decide +kernel
theorem dX2_filled_126 : decode cX2_filled 126 = .ok (.fstore 10, 2) := by decide +kernel
theorem dX2_filled_128 : decode cX2_filled 128 = .ok (.fload 10, 2) := by decide +kernel
theorem dX2_filled_130 : decode cX2_filled 130 = .ok (.ldc 128, 2) := by decide +kernel
theorem dX2_filled_132 : decode cX2_filled 132 = .ok (.iload 5, 2) := by decide +kernel
theorem dX2_filled_134 : decode cX2_filled 134 = .ok (.i2f, 1) := by decide +kernel
theorem dX2_filled_135 : decode cX2_filled 135 = .ok (.fmul, 1) := by decide +kernel
theorem dX2_filled_136 : decode cX2_filled 136 = .ok (.fcmp .g, 1) := by decide +kernel
theorem dX2_filled_137 : decode cX2_filled 137 = .ok (.ifCond .gt 38, 3) := by decide +kernel
theorem dX2_filled_140 : decode cX2_filled 140 = .ok (.fconst 1, 1) := by decide +kernel
theorem dX2_filled_141 : decode cX2_filled 141 = .ok (.fconst 1, 1) := by decide +kernel
theorem dX2_filled_142 : decode cX2_filled 142 = .ok (.fload 10, 2) := by decide +kernel
theorem dX2_filled_144 : decode cX2_filled 144 = .ok (.iload 5, 2) := by decide +kernel
theorem dX2_filled_146 : decode cX2_filled 146 = .ok (.i2f, 1) := by decide +kernel
theorem dX2_filled_147 : decode cX2_filled 147 = .ok (.fdiv, 1) := by decide +kernel
theorem dX2_filled_148 : decode cX2_filled 148 = .ok (.fadd, 1) := by decide +kernel
theorem dX2_filled_149 : decode cX2_filled 149 = .ok (.fdiv, 1) := by decide +kernel
theorem dX2_filled_150 : decode cX2_filled 150 = .ok (.fstore 11, 2) := by decide +kernel
theorem dX2_filled_152 : decode cX2_filled 152 = .ok (.fload 6, 2) := by decide +kernel
theorem dX2_filled_154 : decode cX2_filled 154 = .ok (.fload 11, 2) := by decide +kernel
theorem dX2_filled_156 : decode cX2_filled 156 = .ok (.fadd, 1) := by decide +kernel
theorem dX2_filled_157 : decode cX2_filled 157 = .ok (.fstore 6, 2) := by decide +kernel
theorem dX2_filled_159 : decode cX2_filled 159 = .ok (.fload 7, 2) := by decide +kernel
theorem dX2_filled_161 : decode cX2_filled 161 = .ok (.fload 11, 2) := by decide +kernel
theorem dX2_filled_163 : decode cX2_filled 163 = .ok (.aload_n 0, 1) := by decide +kernel
theorem dX2_filled_164 : decode cX2_filled 164 = .ok (.getfield 22, 3) := by decide +kernel
theorem dX2_filled_167 : decode cX2_filled 167 = .ok (.iload 9, 2) := by decide +kernel
theorem dX2_filled_169 : decode cX2_filled 169 = .ok (.iaload, 1) := by decide +kernel
theorem dX2_filled_170 : decode cX2_filled 170 = .ok (.i2f, 1) := by decide +kernel
theorem dX2_filled_171 : decode cX2_filled 171 = .ok (.fmul, 1) := by decide +kernel
theorem dX2_filled_172 : decode cX2_filled 172 = .ok (.fadd, 1) := by decide +kernel
theorem dX2_filled_173 : decode cX2_filled 173 = .ok (.fstore 7, 2) := by decide +kernel
theorem dX2_filled_175 : decode cX2_filled 175 = .ok (.iinc 8 1, 3) := by decide +kernel
theorem dX2_filled_178 : decode cX2_filled 178 = .ok (.goto (-139), 3) := by decide +kernel
theorem dX2_filled_181 : decode cX2_filled 181 = .ok (.fload 6, 2) := by decide +kernel
theorem dX2_filled_183 : decode cX2_filled 183 = .ok (.fconst 0, 1) := by decide +kernel
theorem dX2_filled_184 : decode cX2_filled 184 = .ok (.fcmp .l, 1) := by decide +kernel
theorem dX2_filled_185 : decode cX2_filled 185 = .ok (.ifCond .le 12, 3) := by decide +kernel
theorem dX2_filled_188 : decode cX2_filled 188 = .ok (.fload 7, 2) := by decide +kernel
theorem dX2_filled_190 : decode cX2_filled 190 = .ok (.fload 6, 2) := by decide +kernel
theorem dX2_filled_192 : decode cX2_filled 192 = .ok (.fdiv, 1) := by decide +kernel
theorem dX2_filled_193 : decode cX2_filled 193 = .ok (.f2i, 1) := by decide +kernel
theorem dX2_filled_194 : decode cX2_filled 194 = .ok (.goto 6, 3) := by decide +kernel
theorem dX2_filled_197 : decode cX2_filled 197 = .ok (.sipush (-10001), 3) := by decide +kernel
theorem dX2_filled_200 : decode cX2_filled 200 = .ok (.ireturn, 1) := by decide +kernel
theorem dX2_shift_0 : decode cX2_shift 0 = .ok (.aload_n 0, 1) := by decide +kernel
theorem dX2_shift_1 : decode cX2_shift 1 = .ok (.iload_n 1, 1) := by decide +kernel
theorem dX2_shift_2 : decode cX2_shift 2 = .ok (.invokevirtual 48, 3) := by decide +kernel
theorem dX2_shift_5 : decode cX2_shift 5 = .ok (.ifCond .ne 11, 3) := by decide +kernel
theorem dX2_shift_8 : decode cX2_shift 8 = .ok (.aload_n 0, 1) := by decide +kernel
theorem dX2_shift_9 : decode cX2_shift 9 = .ok (.iload_n 2, 1) := by decide +kernel
theorem dX2_shift_10 : decode cX2_shift 10 = .ok (.invokevirtual 48, 3) := by decide +kernel
theorem dX2_shift_13 : decode cX2_shift 13 = .ok (.ifCond .eq 7, 3) := by decide +kernel
theorem dX2_shift_16 : decode cX2_shift 16 = .ok (.sipush (-10001), 3) := by decide +kernel
theorem dX2_shift_19 : decode cX2_shift 19 = .ok (.ireturn, 1) := by decide +kernel
theorem dX2_shift_20 : decode cX2_shift 20 = .ok (.aload_n 0, 1) := by decide +kernel
theorem dX2_shift_21 : decode cX2_shift 21 = .ok (.iload_n 2, 1) := by decide +kernel
theorem dX2_shift_22 : decode cX2_shift 22 = .ok (.invokevirtual 129, 3) := by decide +kernel
theorem dX2_shift_25 : decode cX2_shift 25 = .ok (.aload_n 0, 1) := by decide +kernel
theorem dX2_shift_26 : decode cX2_shift 26 = .ok (.iload_n 1, 1) := by decide +kernel
theorem dX2_shift_27 : decode cX2_shift 27 = .ok (.invokevirtual 129, 3) := by decide +kernel
theorem dX2_shift_30 : decode cX2_shift 30 = .ok (.isub, 1) := by decide +kernel
theorem dX2_shift_31 : decode cX2_shift 31 = .ok (.ireturn, 1) := by decide +kernel
theorem dX2_meanBits_0 : decode cX2_meanBits 0 = .ok (.iconst 0, 1) := by decide +kernel
theorem dX2_meanBits_1 : decode cX2_meanBits 1 = .ok (.istore_n 2, 1) := by decide +kernel
theorem dX2_meanBits_2 : decode cX2_meanBits 2 = .ok (.iconst 0, 1) := by decide +kernel
theorem dX2_meanBits_3 : decode cX2_meanBits 3 = .ok (.istore_n 3, 1) := by decide +kernel
theorem dX2_meanBits_4 : decode cX2_meanBits 4 = .ok (.iconst 0, 1) := by decide +kernel
theorem dX2_meanBits_5 : decode cX2_meanBits 5 = .ok (.istore 4, 2) := by decide +kernel
theorem dX2_meanBits_7 : decode cX2_meanBits 7 = .ok (.iload 4, 2) := by decide +kernel
theorem dX2_meanBits_9 : decode cX2_meanBits 9 = .ok (.aload_n 0, 1) := by decide +kernel
theorem dX2_meanBits_10 : decode cX2_meanBits 10 = .ok (.getfield 12, 3) := by decide +kernel
theorem dX2_meanBits_13 : decode cX2_meanBits 13 = .ok (.getfield 132, 3) := by decide +kernel
theorem dX2_meanBits_16 : decode cX2_meanBits 16 = .ok (.if_icmp .ge 65, 3) := by decide +kernel
theorem dX2_meanBits_19 : decode cX2_meanBits 19 = .ok (.iconst 0, 1) := by decide +kernel
theorem dX2_meanBits_20 : decode cX2_meanBits 20 = .ok (.istore 5, 2) := by decide +kernel
theorem dX2_meanBits_22 : decode cX2_meanBits 22 = .ok (.iload 5, 2) := by decide +kernel
theorem dX2_meanBits_24 : decode cX2_meanBits 24 = .ok (.aload_n 0, 1) := by decide +kernel
theorem dX2_meanBits_25 : decode cX2_meanBits 25 = .ok (.getfield 12, 3) := by decide +kernel
theorem dX2_meanBits_28 : decode cX2_meanBits 28 = .ok (.getfield 135, 3) := by decide +kernel
theorem dX2_meanBits_31 : decode cX2_meanBits 31 = .ok (.if_icmp .ge 44, 3) := by decide +kernel
theorem dX2_meanBits_34 : decode cX2_meanBits 34 = .ok (.aload_n 0, 1) := by decide +kernel
theorem dX2_meanBits_35 : decode cX2_meanBits 35 = .ok (.getfield 12, 3) := by decide +kernel
theorem dX2_meanBits_38 : decode cX2_meanBits 38 = .ok (.iload_n 1, 1) := by decide +kernel
theorem dX2_meanBits_39 : decode cX2_meanBits 39 = .ok (.iload 5, 2) := by decide +kernel
theorem dX2_meanBits_41 : decode cX2_meanBits 41 = .ok (.iload 4, 2) := by decide +kernel
theorem dX2_meanBits_43 : decode cX2_meanBits 43 = .ok (.invokevirtual 115, 3) := by decide +kernel
theorem dX2_meanBits_46 : decode cX2_meanBits 46 = .ok (.istore 6, 2) := by decide +kernel
theorem dX2_meanBits_48 : decode cX2_meanBits 48 = .ok (.aload_n 0, 1) := by decide +kernel
theorem dX2_meanBits_49 : decode cX2_meanBits 49 = .ok (.iload 6, 2) := by decide +kernel
theorem dX2_meanBits_51 : decode cX2_meanBits 51 = .ok (.invokevirtual 48, 3) := by decide +kernel
theorem dX2_meanBits_54 : decode cX2_meanBits 54 = .ok (.ifCond .ne 15, 3) := by decide +kernel
theorem dX2_meanBits_57 : decode cX2_meanBits 57 = .ok (.iload_n 2, 1) := by decide +kernel
theorem dX2_meanBits_58 : decode cX2_meanBits 58 = .ok (.aload_n 0, 1) := by decide +kernel
theorem dX2_meanBits_59 : decode cX2_meanBits 59 = .ok (.iload 6, 2) := by decide +kernel
theorem dX2_meanBits_61 : decode cX2_meanBits 61 = .ok (.invokevirtual 129, 3) := by decide +kernel
theorem dX2_meanBits_64 : decode cX2_meanBits 64 = .ok (.iadd, 1) := by decide +kernel
theorem dX2_meanBits_65 : decode cX2_meanBits 65 = .ok (.istore_n 2, 1) := by decide +kernel
theorem dX2_meanBits_66 : decode cX2_meanBits 66 = .ok (.iinc 3 1, 3) := by decide +kernel
theorem dX2_meanBits_69 : decode cX2_meanBits 69 = .ok (.iinc 5 1, 3) := by decide +kernel
theorem dX2_meanBits_72 : decode cX2_meanBits 72 = .ok (.goto (-50), 3) := by decide +kernel
theorem dX2_meanBits_75 : decode cX2_meanBits 75 = .ok (.iinc 4 1, 3) := by decide +kernel
theorem dX2_meanBits_78 : decode cX2_meanBits 78 = .ok (.goto (-71), 3) := by decide +kernel
theorem dX2_meanBits_81 : decode cX2_meanBits 81 = .ok (.iload_n 3, 1) := by decide +kernel
theorem dX2_meanBits_82 : decode cX2_meanBits 82 = .ok (.ifCond .le 14, 3) := by decide +kernel
theorem dX2_meanBits_85 : decode cX2_meanBits 85 = .ok (.iload_n 2, 1) := by decide +kernel
theorem dX2_meanBits_86 : decode cX2_meanBits 86 = .ok (.i2d, 1) := by decide +kernel
theorem dX2_meanBits_87 : decode cX2_meanBits 87 = .ok (.iload_n 3, 1) := by decide +kernel
theorem dX2_meanBits_88 : decode cX2_meanBits 88 = .ok (.i2d, 1) := by decide +kernel
theorem dX2_meanBits_89 : decode cX2_meanBits 89 = .ok (.ddiv, 1) := by decide +kernel
theorem dX2_meanBits_90 : decode cX2_meanBits 90 = .ok (.invokestatic 138, 3) := by decide +kernel
theorem dX2_meanBits_93 : decode cX2_meanBits 93 = .ok (.goto 4, 3) := by decide +kernel
theorem dX2_meanBits_96 : decode cX2_meanBits 96 = .ok (.lconst 0, 1) := by decide +kernel
theorem dX2_meanBits_97 : decode cX2_meanBits 97 = .ok (.lreturn, 1) := by decide +kernel
