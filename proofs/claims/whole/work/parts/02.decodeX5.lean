theorem dX5_init_0 : decode cX5_init 0 = .ok (.aload_n 0, 1) := by decide +kernel
theorem dX5_init_1 : decode cX5_init 1 = .ok (.invokespecial 3, 3) := by decide +kernel
theorem dX5_init_4 : decode cX5_init 4 = .ok (.aload_n 0, 1) := by decide +kernel
theorem dX5_init_5 : decode cX5_init 5 = .ok (.new 9, 3) := by decide +kernel
theorem dX5_init_8 : decode cX5_init 8 = .ok (.dup, 1) := by decide +kernel
theorem dX5_init_9 : decode cX5_init 9 = .ok (.invokespecial 11, 3) := by decide +kernel
theorem dX5_init_12 : decode cX5_init 12 = .ok (.putfield 12, 3) := by decide +kernel
theorem dX5_init_15 : decode cX5_init 15 = .ok (.aload_n 0, 1) := by decide +kernel
theorem dX5_init_16 : decode cX5_init 16 = .ok (.aload_n 0, 1) := by decide +kernel
theorem dX5_init_17 : decode cX5_init 17 = .ok (.getfield 12, 3) := by decide +kernel
theorem dX5_init_20 : decode cX5_init 20 = .ok (.getfield 16, 3) := by decide +kernel
theorem dX5_init_23 : decode cX5_init 23 = .ok (.putfield 20, 3) := by decide +kernel
theorem dX5_init_26 : decode cX5_init 26 = .ok (.aload_n 0, 1) := by decide +kernel
theorem dX5_init_27 : decode cX5_init 27 = .ok (.new 23, 3) := by decide +kernel
theorem dX5_init_30 : decode cX5_init 30 = .ok (.dup, 1) := by decide +kernel
theorem dX5_init_31 : decode cX5_init 31 = .ok (.invokespecial 25, 3) := by decide +kernel
theorem dX5_init_34 : decode cX5_init 34 = .ok (.putfield 26, 3) := by decide +kernel
theorem dX5_init_37 : decode cX5_init 37 = .ok (.aload_n 0, 1) := by decide +kernel
theorem dX5_init_38 : decode cX5_init 38 = .ok (.iconst 5, 1) := by decide +kernel
theorem dX5_init_39 : decode cX5_init 39 = .ok (.anewarray 23, 3) := by decide +kernel
theorem dX5_init_42 : decode cX5_init 42 = .ok (.putfield 29, 3) := by decide +kernel
theorem dX5_init_45 : decode cX5_init 45 = .ok (.aload_n 0, 1) := by decide +kernel
theorem dX5_init_46 : decode cX5_init 46 = .ok (.iconst 0, 1) := by decide +kernel
theorem dX5_init_47 : decode cX5_init 47 = .ok (.putfield 33, 3) := by decide +kernel
theorem dX5_init_50 : decode cX5_init 50 = .ok (.aload_n 0, 1) := by decide +kernel
theorem dX5_init_51 : decode cX5_init 51 = .ok (.new 37, 3) := by decide +kernel
theorem dX5_init_54 : decode cX5_init 54 = .ok (.dup, 1) := by decide +kernel
theorem dX5_init_55 : decode cX5_init 55 = .ok (.invokespecial 39, 3) := by decide +kernel
theorem dX5_init_58 : decode cX5_init 58 = .ok (.putfield 40, 3) := by decide +kernel
theorem dX5_init_61 : decode cX5_init 61 = .ok (.aload_n 0, 1) := by decide +kernel
theorem dX5_init_62 : decode cX5_init 62 = .ok (.iconst 0, 1) := by decide +kernel
theorem dX5_init_63 : decode cX5_init 63 = .ok (.putfield 44, 3) := by decide +kernel
theorem dX5_init_66 : decode cX5_init 66 = .ok (.aload_n 0, 1) := by decide +kernel
theorem dX5_init_67 : decode cX5_init 67 = .ok (.iconst 0, 1) := by decide +kernel
theorem dX5_init_68 : decode cX5_init 68 = .ok (.putfield 47, 3) := by decide +kernel
theorem dX5_init_71 : decode cX5_init 71 = .ok (.aload_n 0, 1) := by decide +kernel
theorem dX5_init_72 : decode cX5_init 72 = .ok (.iconst 0, 1) := by decide +kernel
theorem dX5_init_73 : decode cX5_init 73 = .ok (.putfield 50, 3) := by decide +kernel
theorem dX5_init_76 : decode cX5_init 76 = .ok (.iconst 0, 1) := by decide +kernel
theorem dX5_init_77 : decode cX5_init 77 = .ok (.istore_n 1, 1) := by decide +kernel
theorem dX5_init_78 : decode cX5_init 78 = .ok (.iload_n 1, 1) := by decide +kernel
theorem dX5_init_79 : decode cX5_init 79 = .ok (.iconst 5, 1) := by decide +kernel
theorem dX5_init_80 : decode cX5_init 80 = .ok (.if_icmp .ge 22, 3) := by decide +kernel
theorem dX5_init_83 : decode cX5_init 83 = .ok (.aload_n 0, 1) := by decide +kernel
theorem dX5_init_84 : decode cX5_init 84 = .ok (.getfield 29, 3) := by decide +kernel
theorem dX5_init_87 : decode cX5_init 87 = .ok (.iload_n 1, 1) := by decide +kernel
theorem dX5_init_88 : decode cX5_init 88 = .ok (.new 23, 3) := by decide +kernel
theorem dX5_init_91 : decode cX5_init 91 = .ok (.dup, 1) := by decide +kernel
theorem dX5_init_92 : decode cX5_init 92 = .ok (.invokespecial 25, 3) := by decide +kernel
theorem dX5_init_95 : decode cX5_init 95 = .ok (.aastore, 1) := by decide +kernel
theorem dX5_init_96 : decode cX5_init 96 = .ok (.iinc 1 1, 3) := by decide +kernel
theorem dX5_init_99 : decode cX5_init 99 = .ok (.goto (-21), 3) := by decide +kernel
theorem dX5_init_102 : decode cX5_init 102 = .ok (.return_, 1) := by decide +kernel
theorem dX5_grid_0 : decode cX5_grid 0 = .ok (.aload_n 0, 1) := by decide +kernel
theorem dX5_grid_1 : decode cX5_grid 1 = .ok (.getfield 26, 3) := by decide +kernel
theorem dX5_grid_4 : decode cX5_grid 4 = .ok (.aload_n 0, 1) := by decide +kernel
theorem dX5_grid_5 : decode cX5_grid 5 = .ok (.getfield 20, 3) := by decide +kernel
theorem dX5_grid_8 : decode cX5_grid 8 = .ok (.invokevirtual 53, 3) := by decide +kernel
theorem dX5_grid_11 : decode cX5_grid 11 = .ok (.aload_n 0, 1) := by decide +kernel
theorem dX5_grid_12 : decode cX5_grid 12 = .ok (.aload_n 0, 1) := by decide +kernel
theorem dX5_grid_13 : decode cX5_grid 13 = .ok (.getfield 20, 3) := by decide +kernel
theorem dX5_grid_16 : decode cX5_grid 16 = .ok (.iload_n 1, 1) := by decide +kernel
theorem dX5_grid_17 : decode cX5_grid 17 = .ok (.iload_n 2, 1) := by decide +kernel
theorem dX5_grid_18 : decode cX5_grid 18 = .ok (.invokevirtual 57, 3) := by decide +kernel
theorem dX5_grid_21 : decode cX5_grid 21 = .ok (.invokevirtual 61, 3) := by decide +kernel
theorem dX5_grid_24 : decode cX5_grid 24 = .ok (.ireturn, 1) := by decide +kernel
theorem dX5_wave_0 : decode cX5_wave 0 = .ok (.aload_n 0, 1) := by decide +kernel
theorem dX5_wave_1 : decode cX5_wave 1 = .ok (.getfield 26, 3) := by decide +kernel
theorem dX5_wave_4 : decode cX5_wave 4 = .ok (.aload_n 0, 1) := by decide +kernel
theorem dX5_wave_5 : decode cX5_wave 5 = .ok (.getfield 20, 3) := by decide +kernel
theorem dX5_wave_8 : decode cX5_wave 8 = .ok (.invokevirtual 53, 3) := by decide +kernel
theorem dX5_wave_11 : decode cX5_wave 11 = .ok (.aload_n 0, 1) := by decide +kernel
theorem dX5_wave_12 : decode cX5_wave 12 = .ok (.aload_n 0, 1) := by decide +kernel
theorem dX5_wave_13 : decode cX5_wave 13 = .ok (.getfield 20, 3) := by decide +kernel
theorem dX5_wave_16 : decode cX5_wave 16 = .ok (.iload_n 1, 1) := by decide +kernel
theorem dX5_wave_17 : decode cX5_wave 17 = .ok (.iload_n 2, 1) := by decide +kernel
theorem dX5_wave_18 : decode cX5_wave 18 = .ok (.invokevirtual 65, 3) := by decide +kernel
theorem dX5_wave_21 : decode cX5_wave 21 = .ok (.invokevirtual 61, 3) := by decide +kernel
theorem dX5_wave_24 : decode cX5_wave 24 = .ok (.ireturn, 1) := by decide +kernel
theorem dX5_sets_0 : decode cX5_sets 0 = .ok (.aload_n 0, 1) := by decide +kernel
theorem dX5_sets_1 : decode cX5_sets 1 = .ok (.getfield 26, 3) := by decide +kernel
theorem dX5_sets_4 : decode cX5_sets 4 = .ok (.aload_n 0, 1) := by decide +kernel
theorem dX5_sets_5 : decode cX5_sets 5 = .ok (.getfield 20, 3) := by decide +kernel
theorem dX5_sets_8 : decode cX5_sets 8 = .ok (.invokevirtual 53, 3) := by decide +kernel
theorem dX5_sets_11 : decode cX5_sets 11 = .ok (.aload_n 0, 1) := by decide +kernel
theorem dX5_sets_12 : decode cX5_sets 12 = .ok (.aload_n 0, 1) := by decide +kernel
theorem dX5_sets_13 : decode cX5_sets 13 = .ok (.getfield 20, 3) := by decide +kernel
theorem dX5_sets_16 : decode cX5_sets 16 = .ok (.iload_n 1, 1) := by decide +kernel
theorem dX5_sets_17 : decode cX5_sets 17 = .ok (.iload_n 2, 1) := by decide +kernel
theorem dX5_sets_18 : decode cX5_sets 18 = .ok (.invokevirtual 68, 3) := by decide +kernel
theorem dX5_sets_21 : decode cX5_sets 21 = .ok (.invokevirtual 61, 3) := by decide +kernel
theorem dX5_sets_24 : decode cX5_sets 24 = .ok (.ireturn, 1) := by decide +kernel
theorem dX5_sample_0 : decode cX5_sample 0 = .ok (.aload_n 0, 1) := by decide +kernel
theorem dX5_sample_1 : decode cX5_sample 1 = .ok (.getfield 26, 3) := by decide +kernel
theorem dX5_sample_4 : decode cX5_sample 4 = .ok (.aload_n 0, 1) := by decide +kernel
theorem dX5_sample_5 : decode cX5_sample 5 = .ok (.getfield 20, 3) := by decide +kernel
theorem dX5_sample_8 : decode cX5_sample 8 = .ok (.invokevirtual 53, 3) := by decide +kernel
theorem dX5_sample_11 : decode cX5_sample 11 = .ok (.aload_n 0, 1) := by decide +kernel
theorem dX5_sample_12 : decode cX5_sample 12 = .ok (.aload_n 0, 1) := by decide +kernel
theorem dX5_sample_13 : decode cX5_sample 13 = .ok (.getfield 20, 3) := by decide +kernel
theorem dX5_sample_16 : decode cX5_sample 16 = .ok (.aload_n 0, 1) := by decide +kernel
theorem dX5_sample_17 : decode cX5_sample 17 = .ok (.getfield 20, 3) := by decide +kernel
theorem dX5_sample_20 : decode cX5_sample 20 = .ok (.iload_n 1, 1) := by decide +kernel
theorem dX5_sample_21 : decode cX5_sample 21 = .ok (.iload_n 2, 1) := by decide +kernel
theorem dX5_sample_22 : decode cX5_sample 22 = .ok (.iload_n 3, 1) := by decide +kernel
theorem dX5_sample_23 : decode cX5_sample 23 = .ok (.invokevirtual 71, 3) := by decide +kernel
theorem dX5_sample_26 : decode cX5_sample 26 = .ok (.iload 4, 2) := by decide +kernel
theorem dX5_sample_28 : decode cX5_sample 28 = .ok (.iload 5, 2) := by decide +kernel
theorem dX5_sample_30 : decode cX5_sample 30 = .ok (.iload 6, 2) := by decide +kernel
theorem dX5_sample_32 : decode cX5_sample 32 = .ok (.invokevirtual 75, 3) := by decide +kernel
theorem dX5_sample_35 : decode cX5_sample 35 = .ok (.invokevirtual 61, 3) := by decide +kernel
theorem dX5_sample_38 : decode cX5_sample 38 = .ok (.ireturn, 1) := by decide +kernel
theorem dX5_echo_0 : decode cX5_echo 0 = .ok (.aload_n 0, 1) := by decide +kernel
theorem dX5_echo_1 : decode cX5_echo 1 = .ok (.getfield 26, 3) := by decide +kernel
theorem dX5_echo_4 : decode cX5_echo 4 = .ok (.aload_n 0, 1) := by decide +kernel
theorem dX5_echo_5 : decode cX5_echo 5 = .ok (.getfield 20, 3) := by decide +kernel
theorem dX5_echo_8 : decode cX5_echo 8 = .ok (.invokevirtual 53, 3) := by decide +kernel
theorem dX5_echo_11 : decode cX5_echo 11 = .ok (.aload_n 0, 1) := by decide +kernel
theorem dX5_echo_12 : decode cX5_echo 12 = .ok (.aload_n 0, 1) := by decide +kernel
theorem dX5_echo_13 : decode cX5_echo 13 = .ok (.getfield 20, 3) := by decide +kernel
theorem dX5_echo_16 : decode cX5_echo 16 = .ok (.aload_n 0, 1) := by decide +kernel
theorem dX5_echo_17 : decode cX5_echo 17 = .ok (.getfield 20, 3) := by decide +kernel
theorem dX5_echo_20 : decode cX5_echo 20 = .ok (.iload_n 1, 1) := by decide +kernel
theorem dX5_echo_21 : decode cX5_echo 21 = .ok (.iload_n 2, 1) := by decide +kernel
theorem dX5_echo_22 : decode cX5_echo 22 = .ok (.iload_n 3, 1) := by decide +kernel
theorem dX5_echo_23 : decode cX5_echo 23 = .ok (.invokevirtual 71, 3) := by decide +kernel
theorem dX5_echo_26 : decode cX5_echo 26 = .ok (.iload 4, 2) := by decide +kernel
theorem dX5_echo_28 : decode cX5_echo 28 = .ok (.iload 5, 2) := by decide +kernel
theorem dX5_echo_30 : decode cX5_echo 30 = .ok (.invokevirtual 79, 3) := by decide +kernel
theorem dX5_echo_33 : decode cX5_echo 33 = .ok (.invokevirtual 61, 3) := by decide +kernel
theorem dX5_echo_36 : decode cX5_echo 36 = .ok (.ireturn, 1) := by decide +kernel
theorem dX5_shines_0 : decode cX5_shines 0 = .ok (.aload_n 0, 1) := by decide +kernel
theorem dX5_shines_1 : decode cX5_shines 1 = .ok (.getfield 26, 3) := by decide +kernel
theorem dX5_shines_4 : decode cX5_shines 4 = .ok (.aload_n 0, 1) := by decide +kernel
theorem dX5_shines_5 : decode cX5_shines 5 = .ok (.getfield 20, 3) := by decide +kernel
theorem dX5_shines_8 : decode cX5_shines 8 = .ok (.invokevirtual 53, 3) := by decide +kernel
theorem dX5_shines_11 : decode cX5_shines 11 = .ok (.aload_n 0, 1) := by decide +kernel
theorem dX5_shines_12 : decode cX5_shines 12 = .ok (.aload_n 0, 1) := by decide +kernel
theorem dX5_shines_13 : decode cX5_shines 13 = .ok (.getfield 20, 3) := by decide +kernel
theorem dX5_shines_16 : decode cX5_shines 16 = .ok (.aload_n 0, 1) := by decide +kernel
theorem dX5_shines_17 : decode cX5_shines 17 = .ok (.getfield 20, 3) := by decide +kernel
theorem dX5_shines_20 : decode cX5_shines 20 = .ok (.iload_n 1, 1) := by decide +kernel
theorem dX5_shines_21 : decode cX5_shines 21 = .ok (.iload_n 2, 1) := by decide +kernel
theorem dX5_shines_22 : decode cX5_shines 22 = .ok (.iload_n 3, 1) := by decide +kernel
theorem dX5_shines_23 : decode cX5_shines 23 = .ok (.invokevirtual 71, 3) := by decide +kernel
theorem dX5_shines_26 : decode cX5_shines 26 = .ok (.iload 4, 2) := by decide +kernel
theorem dX5_shines_28 : decode cX5_shines 28 = .ok (.invokevirtual 82, 3) := by decide +kernel
theorem dX5_shines_31 : decode cX5_shines 31 = .ok (.invokevirtual 61, 3) := by decide +kernel
theorem dX5_shines_34 : decode cX5_shines 34 = .ok (.ireturn, 1) := by decide +kernel
theorem dX5_clears_0 : decode cX5_clears 0 = .ok (.aload_n 0, 1) := by decide +kernel
theorem dX5_clears_1 : decode cX5_clears 1 = .ok (.getfield 26, 3) := by decide +kernel
theorem dX5_clears_4 : decode cX5_clears 4 = .ok (.aload_n 0, 1) := by decide +kernel
theorem dX5_clears_5 : decode cX5_clears 5 = .ok (.getfield 20, 3) := by decide +kernel
theorem dX5_clears_8 : decode cX5_clears 8 = .ok (.invokevirtual 53, 3) := by decide +kernel
theorem dX5_clears_11 : decode cX5_clears 11 = .ok (.aload_n 0, 1) := by decide +kernel
theorem dX5_clears_12 : decode cX5_clears 12 = .ok (.aload_n 0, 1) := by decide +kernel
theorem dX5_clears_13 : decode cX5_clears 13 = .ok (.getfield 20, 3) := by decide +kernel
theorem dX5_clears_16 : decode cX5_clears 16 = .ok (.aload_n 0, 1) := by decide +kernel
theorem dX5_clears_17 : decode cX5_clears 17 = .ok (.getfield 20, 3) := by decide +kernel
theorem dX5_clears_20 : decode cX5_clears 20 = .ok (.iload_n 1, 1) := by decide +kernel
theorem dX5_clears_21 : decode cX5_clears 21 = .ok (.iload_n 2, 1) := by decide +kernel
theorem dX5_clears_22 : decode cX5_clears 22 = .ok (.iload_n 3, 1) := by decide +kernel
theorem dX5_clears_23 : decode cX5_clears 23 = .ok (.invokevirtual 71, 3) := by decide +kernel
theorem dX5_clears_26 : decode cX5_clears 26 = .ok (.invokevirtual 85, 3) := by decide +kernel
theorem dX5_clears_29 : decode cX5_clears 29 = .ok (.invokevirtual 61, 3) := by decide +kernel
theorem dX5_clears_32 : decode cX5_clears 32 = .ok (.ireturn, 1) := by decide +kernel
theorem dX5_raw_0 : decode cX5_raw 0 = .ok (.aload_n 0, 1) := by decide +kernel
theorem dX5_raw_1 : decode cX5_raw 1 = .ok (.getfield 20, 3) := by decide +kernel
theorem dX5_raw_4 : decode cX5_raw 4 = .ok (.iload_n 1, 1) := by decide +kernel
theorem dX5_raw_5 : decode cX5_raw 5 = .ok (.iload_n 2, 1) := by decide +kernel
theorem dX5_raw_6 : decode cX5_raw 6 = .ok (.iload_n 3, 1) := by decide +kernel
theorem dX5_raw_7 : decode cX5_raw 7 = .ok (.invokevirtual 71, 3) := by decide +kernel
theorem dX5_raw_10 : decode cX5_raw 10 = .ok (.istore 6, 2) := by decide +kernel
theorem dX5_raw_12 : decode cX5_raw 12 = .ok (.iload 6, 2) := by decide +kernel
theorem dX5_raw_14 : decode cX5_raw 14 = .ok (.ifCond .lt 23, 3) := by decide +kernel
theorem dX5_raw_17 : decode cX5_raw 17 = .ok (.iload 4, 2) := by decide +kernel
theorem dX5_raw_19 : decode cX5_raw 19 = .ok (.iconst 0, 1) := by decide +kernel
theorem dX5_raw_20 : decode cX5_raw 20 = .ok (.iconst 2, 1) := by decide +kernel
theorem dX5_raw_21 : decode cX5_raw 21 = .ok (.invokestatic 88, 3) := by decide +kernel
theorem dX5_raw_24 : decode cX5_raw 24 = .ok (.ifCond .eq 13, 3) := by decide +kernel
theorem dX5_raw_27 : decode cX5_raw 27 = .ok (.iload 5, 2) := by decide +kernel
theorem dX5_raw_29 : decode cX5_raw 29 = .ok (.iconst 0, 1) := by decide +kernel
theorem dX5_raw_30 : decode cX5_raw 30 = .ok (.iconst 3, 1) := by decide +kernel
theorem dX5_raw_31 : decode cX5_raw 31 = .ok (.invokestatic 88, 3) := by decide +kernel
theorem dX5_raw_34 : decode cX5_raw 34 = .ok (.ifCond .ne 11, 3) := by decide +kernel
theorem dX5_raw_37 : decode cX5_raw 37 = .ok (.aload_n 0, 1) := by decide +kernel
theorem dX5_raw_38 : decode cX5_raw 38 = .ok (.sipush (-10002), 3) := by decide +kernel
theorem dX5_raw_41 : decode cX5_raw 41 = .ok (.invokevirtual 92, 3) := by decide +kernel
theorem dX5_raw_44 : decode cX5_raw 44 = .ok (.ireturn, 1) := by decide +kernel
theorem dX5_raw_45 : decode cX5_raw 45 = .ok (.aload_n 0, 1) := by decide +kernel
theorem dX5_raw_46 : decode cX5_raw 46 = .ok (.getfield 20, 3) := by decide +kernel
theorem dX5_raw_49 : decode cX5_raw 49 = .ok (.iload 6, 2) := by decide +kernel
theorem dX5_raw_51 : decode cX5_raw 51 = .ok (.iload 4, 2) := by decide +kernel
theorem dX5_raw_53 : decode cX5_raw 53 = .ok (.iload 5, 2) := by decide +kernel
theorem dX5_raw_55 : decode cX5_raw 55 = .ok (.invokevirtual 95, 3) := by decide +kernel
theorem dX5_raw_58 : decode cX5_raw 58 = .ok (.ireturn, 1) := by decide +kernel
theorem dX5_of_0 : decode cX5_of 0 = .ok (.aload_n 0, 1) := by decide +kernel
theorem dX5_of_1 : decode cX5_of 1 = .ok (.getfield 20, 3) := by decide +kernel
theorem dX5_of_4 : decode cX5_of 4 = .ok (.iload_n 1, 1) := by decide +kernel
theorem dX5_of_5 : decode cX5_of 5 = .ok (.iload_n 2, 1) := by decide +kernel
theorem dX5_of_6 : decode cX5_of 6 = .ok (.iload_n 3, 1) := by decide +kernel
theorem dX5_of_7 : decode cX5_of 7 = .ok (.invokevirtual 71, 3) := by decide +kernel
theorem dX5_of_10 : decode cX5_of 10 = .ok (.istore 6, 2) := by decide +kernel
theorem dX5_of_12 : decode cX5_of 12 = .ok (.iload 6, 2) := by decide +kernel
theorem dX5_of_14 : decode cX5_of 14 = .ok (.ifCond .lt 23, 3) := by decide +kernel
theorem dX5_of_17 : decode cX5_of 17 = .ok (.iload 4, 2) := by decide +kernel
theorem dX5_of_19 : decode cX5_of 19 = .ok (.iconst 0, 1) := by decide +kernel
theorem dX5_of_20 : decode cX5_of 20 = .ok (.iconst 2, 1) := by decide +kernel
theorem dX5_of_21 : decode cX5_of 21 = .ok (.invokestatic 88, 3) := by decide +kernel
theorem dX5_of_24 : decode cX5_of 24 = .ok (.ifCond .eq 13, 3) := by decide +kernel
theorem dX5_of_27 : decode cX5_of 27 = .ok (.iload 5, 2) := by decide +kernel
theorem dX5_of_29 : decode cX5_of 29 = .ok (.iconst 0, 1) := by decide +kernel
theorem dX5_of_30 : decode cX5_of 30 = .ok (.iconst 3, 1) := by decide +kernel
theorem dX5_of_31 : decode cX5_of 31 = .ok (.invokestatic 88, 3) := by decide +kernel
theorem dX5_of_34 : decode cX5_of 34 = .ok (.ifCond .ne 11, 3) := by decide +kernel
theorem dX5_of_37 : decode cX5_of 37 = .ok (.aload_n 0, 1) := by decide +kernel
theorem dX5_of_38 : decode cX5_of 38 = .ok (.sipush (-10002), 3) := by decide +kernel
theorem dX5_of_41 : decode cX5_of 41 = .ok (.invokevirtual 92, 3) := by decide +kernel
theorem dX5_of_44 : decode cX5_of 44 = .ok (.ireturn, 1) := by decide +kernel
theorem dX5_of_45 : decode cX5_of 45 = .ok (.aload_n 0, 1) := by decide +kernel
theorem dX5_of_46 : decode cX5_of 46 = .ok (.getfield 20, 3) := by decide +kernel
theorem dX5_of_49 : decode cX5_of 49 = .ok (.iload 6, 2) := by decide +kernel
theorem dX5_of_51 : decode cX5_of 51 = .ok (.iload 4, 2) := by decide +kernel
theorem dX5_of_53 : decode cX5_of 53 = .ok (.invokevirtual 98, 3) := by decide +kernel
theorem dX5_of_56 : decode cX5_of 56 = .ok (.istore 7, 2) := by decide +kernel
theorem dX5_of_58 : decode cX5_of 58 = .ok (.aload_n 0, 1) := by decide +kernel
theorem dX5_of_59 : decode cX5_of 59 = .ok (.getfield 20, 3) := by decide +kernel
theorem dX5_of_62 : decode cX5_of 62 = .ok (.iload 6, 2) := by decide +kernel
theorem dX5_of_64 : decode cX5_of 64 = .ok (.iload 4, 2) := by decide +kernel
theorem dX5_of_66 : decode cX5_of 66 = .ok (.invokevirtual 101, 3) := by decide +kernel
theorem dX5_of_69 : decode cX5_of 69 = .ok (.istore 8, 2) := by decide +kernel
theorem dX5_of_71 : decode cX5_of 71 = .ok (.iload 5, 2) := by decide +kernel
theorem dX5_of_73 : decode cX5_of 73 = .ok (.tableswitch 41 0 2 #[27, 30, 33], 27) := by decide +kernel
theorem dX5_of_100 : decode cX5_of 100 = .ok (.iload 7, 2) := by decide +kernel
theorem dX5_of_102 : decode cX5_of 102 = .ok (.ireturn, 1) := by decide +kernel
theorem dX5_of_103 : decode cX5_of 103 = .ok (.iload 8, 2) := by decide +kernel
theorem dX5_of_105 : decode cX5_of 105 = .ok (.ireturn, 1) := by decide +kernel
theorem dX5_of_106 : decode cX5_of 106 = .ok (.iload 7, 2) := by decide +kernel
theorem dX5_of_108 : decode cX5_of 108 = .ok (.iload 8, 2) := by decide +kernel
theorem dX5_of_110 : decode cX5_of 110 = .ok (.invokestatic 104, 3) := by decide +kernel
theorem dX5_of_113 : decode cX5_of 113 = .ok (.ireturn, 1) := by decide +kernel
theorem dX5_of_114 : decode cX5_of 114 = .ok (.iload 7, 2) := by decide +kernel
theorem dX5_of_116 : decode cX5_of 116 = .ok (.iload 8, 2) := by decide +kernel
theorem dX5_of_118 : decode cX5_of 118 = .ok (.aload_n 0, 1) := by decide +kernel
theorem dX5_of_119 : decode cX5_of 119 = .ok (.getfield 20, 3) := by decide +kernel
theorem dX5_of_122 : decode cX5_of 122 = .ok (.getfield 109, 3) := by decide +kernel
theorem dX5_of_125 : decode cX5_of 125 = .ok (.iload 4, 2) := by decide +kernel
theorem dX5_of_127 : decode cX5_of 127 = .ok (.iaload, 1) := by decide +kernel
theorem dX5_of_128 : decode cX5_of 128 = .ok (.invokestatic 113, 3) := by decide +kernel
theorem dX5_of_131 : decode cX5_of 131 = .ok (.ireturn, 1) := by decide +kernel
theorem dX5_bits_0 : decode cX5_bits 0 = .ok (.aload_n 0, 1) := by decide +kernel
theorem dX5_bits_1 : decode cX5_bits 1 = .ok (.getfield 20, 3) := by decide +kernel
theorem dX5_bits_4 : decode cX5_bits 4 = .ok (.iload_n 1, 1) := by decide +kernel
theorem dX5_bits_5 : decode cX5_bits 5 = .ok (.iload_n 2, 1) := by decide +kernel
theorem dX5_bits_6 : decode cX5_bits 6 = .ok (.iload_n 3, 1) := by decide +kernel
theorem dX5_bits_7 : decode cX5_bits 7 = .ok (.invokevirtual 71, 3) := by decide +kernel
theorem dX5_bits_10 : decode cX5_bits 10 = .ok (.istore 6, 2) := by decide +kernel
theorem dX5_bits_12 : decode cX5_bits 12 = .ok (.iload 6, 2) := by decide +kernel
theorem dX5_bits_14 : decode cX5_bits 14 = .ok (.ifCond .lt 23, 3) := by decide +kernel
theorem dX5_bits_17 : decode cX5_bits 17 = .ok (.iload 4, 2) := by decide +kernel
theorem dX5_bits_19 : decode cX5_bits 19 = .ok (.iconst 0, 1) := by decide +kernel
theorem dX5_bits_20 : decode cX5_bits 20 = .ok (.iconst 2, 1) := by decide +kernel
theorem dX5_bits_21 : decode cX5_bits 21 = .ok (.invokestatic 88, 3) := by decide +kernel
theorem dX5_bits_24 : decode cX5_bits 24 = .ok (.ifCond .eq 13, 3) := by decide +kernel
theorem dX5_bits_27 : decode cX5_bits 27 = .ok (.iload 5, 2) := by decide +kernel
theorem dX5_bits_29 : decode cX5_bits 29 = .ok (.iconst 0, 1) := by decide +kernel
theorem dX5_bits_30 : decode cX5_bits 30 = .ok (.iconst 1, 1) := by decide +kernel
theorem dX5_bits_31 : decode cX5_bits 31 = .ok (.invokestatic 88, 3) := by decide +kernel
theorem dX5_bits_34 : decode cX5_bits 34 = .ok (.ifCond .ne 11, 3) := by decide +kernel
theorem dX5_bits_37 : decode cX5_bits 37 = .ok (.aload_n 0, 1) := by decide +kernel
theorem dX5_bits_38 : decode cX5_bits 38 = .ok (.sipush (-10002), 3) := by decide +kernel
theorem dX5_bits_41 : decode cX5_bits 41 = .ok (.invokevirtual 92, 3) := by decide +kernel
theorem dX5_bits_44 : decode cX5_bits 44 = .ok (.ireturn, 1) := by decide +kernel
theorem dX5_bits_45 : decode cX5_bits 45 = .ok (.aload_n 0, 1) := by decide +kernel
theorem dX5_bits_46 : decode cX5_bits 46 = .ok (.getfield 20, 3) := by decide +kernel
theorem dX5_bits_49 : decode cX5_bits 49 = .ok (.iload 6, 2) := by decide +kernel
theorem dX5_bits_51 : decode cX5_bits 51 = .ok (.iload 4, 2) := by decide +kernel
theorem dX5_bits_53 : decode cX5_bits 53 = .ok (.invokevirtual 98, 3) := by decide +kernel
theorem dX5_bits_56 : decode cX5_bits 56 = .ok (.istore 7, 2) := by decide +kernel
theorem dX5_bits_58 : decode cX5_bits 58 = .ok (.aload_n 0, 1) := by decide +kernel
theorem dX5_bits_59 : decode cX5_bits 59 = .ok (.getfield 20, 3) := by decide +kernel
theorem dX5_bits_62 : decode cX5_bits 62 = .ok (.iload 6, 2) := by decide +kernel
theorem dX5_bits_64 : decode cX5_bits 64 = .ok (.iload 4, 2) := by decide +kernel
theorem dX5_bits_66 : decode cX5_bits 66 = .ok (.invokevirtual 101, 3) := by decide +kernel
theorem dX5_bits_69 : decode cX5_bits 69 = .ok (.istore 8, 2) := by decide +kernel
theorem dX5_bits_71 : decode cX5_bits 71 = .ok (.iload 5, 2) := by decide +kernel
theorem dX5_bits_73 : decode cX5_bits 73 = .ok (.ifCond .ne 13, 3) := by decide +kernel
theorem dX5_bits_76 : decode cX5_bits 76 = .ok (.iload 7, 2) := by decide +kernel
theorem dX5_bits_78 : decode cX5_bits 78 = .ok (.iload 8, 2) := by decide +kernel
theorem dX5_bits_80 : decode cX5_bits 80 = .ok (.invokestatic 116, 3) := by decide +kernel
theorem dX5_bits_83 : decode cX5_bits 83 = .ok (.goto 10, 3) := by decide +kernel
theorem dX5_bits_86 : decode cX5_bits 86 = .ok (.iload 7, 2) := by decide +kernel
theorem dX5_bits_88 : decode cX5_bits 88 = .ok (.iload 8, 2) := by decide +kernel
theorem dX5_bits_90 : decode cX5_bits 90 = .ok (.invokestatic 120, 3) := by decide +kernel
theorem dX5_bits_93 : decode cX5_bits 93 = .ok (.invokestatic 123, 3) := by decide +kernel
theorem dX5_bits_96 : decode cX5_bits 96 = .ok (.ireturn, 1) := by decide +kernel
theorem dX5_wraps_0 : decode cX5_wraps 0 = .ok (.aload_n 0, 1) := by decide +kernel
theorem dX5_wraps_1 : decode cX5_wraps 1 = .ok (.getfield 20, 3) := by decide +kernel
theorem dX5_wraps_4 : decode cX5_wraps 4 = .ok (.iload_n 1, 1) := by decide +kernel
theorem dX5_wraps_5 : decode cX5_wraps 5 = .ok (.iload_n 2, 1) := by decide +kernel
theorem dX5_wraps_6 : decode cX5_wraps 6 = .ok (.iload_n 3, 1) := by decide +kernel
theorem dX5_wraps_7 : decode cX5_wraps 7 = .ok (.invokevirtual 71, 3) := by decide +kernel
theorem dX5_wraps_10 : decode cX5_wraps 10 = .ok (.istore 5, 2) := by decide +kernel
theorem dX5_wraps_12 : decode cX5_wraps 12 = .ok (.iload 5, 2) := by decide +kernel
theorem dX5_wraps_14 : decode cX5_wraps 14 = .ok (.ifCond .lt 13, 3) := by decide +kernel
theorem dX5_wraps_17 : decode cX5_wraps 17 = .ok (.iload 4, 2) := by decide +kernel
theorem dX5_wraps_19 : decode cX5_wraps 19 = .ok (.iconst 0, 1) := by decide +kernel
theorem dX5_wraps_20 : decode cX5_wraps 20 = .ok (.iconst 2, 1) := by decide +kernel
theorem dX5_wraps_21 : decode cX5_wraps 21 = .ok (.invokestatic 88, 3) := by decide +kernel
theorem dX5_wraps_24 : decode cX5_wraps 24 = .ok (.ifCond .ne 11, 3) := by decide +kernel
theorem dX5_wraps_27 : decode cX5_wraps 27 = .ok (.aload_n 0, 1) := by decide +kernel
theorem dX5_wraps_28 : decode cX5_wraps 28 = .ok (.sipush (-10002), 3) := by decide +kernel
theorem dX5_wraps_31 : decode cX5_wraps 31 = .ok (.invokevirtual 92, 3) := by decide +kernel
theorem dX5_wraps_34 : decode cX5_wraps 34 = .ok (.ireturn, 1) := by decide +kernel
theorem dX5_wraps_35 : decode cX5_wraps 35 = .ok (.aload_n 0, 1) := by decide +kernel
theorem dX5_wraps_36 : decode cX5_wraps 36 = .ok (.getfield 20, 3) := by decide +kernel
theorem dX5_wraps_39 : decode cX5_wraps 39 = .ok (.getfield 109, 3) := by decide +kernel
theorem dX5_wraps_42 : decode cX5_wraps 42 = .ok (.iload 4, 2) := by decide +kernel
theorem dX5_wraps_44 : decode cX5_wraps 44 = .ok (.iaload, 1) := by decide +kernel
theorem dX5_wraps_45 : decode cX5_wraps 45 = .ok (.istore 6, 2) := by decide +kernel
theorem dX5_wraps_47 : decode cX5_wraps 47 = .ok (.aload_n 0, 1) := by decide +kernel
theorem dX5_wraps_48 : decode cX5_wraps 48 = .ok (.getfield 12, 3) := by decide +kernel
theorem dX5_wraps_51 : decode cX5_wraps 51 = .ok (.iload 5, 2) := by decide +kernel
theorem dX5_wraps_53 : decode cX5_wraps 53 = .ok (.invokevirtual 129, 3) := by decide +kernel
theorem dX5_wraps_56 : decode cX5_wraps 56 = .ok (.ifCond .ne 9, 3) := by decide +kernel
theorem dX5_wraps_59 : decode cX5_wraps 59 = .ok (.iload 6, 2) := by decide +kernel
theorem dX5_wraps_61 : decode cX5_wraps 61 = .ok (.iconst 1, 1) := by decide +kernel
theorem dX5_wraps_62 : decode cX5_wraps 62 = .ok (.if_icmp .ge 11, 3) := by decide +kernel
theorem dX5_wraps_65 : decode cX5_wraps 65 = .ok (.aload_n 0, 1) := by decide +kernel
theorem dX5_wraps_66 : decode cX5_wraps 66 = .ok (.sipush (-10003), 3) := by decide +kernel
theorem dX5_wraps_69 : decode cX5_wraps 69 = .ok (.invokevirtual 92, 3) := by decide +kernel
theorem dX5_wraps_72 : decode cX5_wraps 72 = .ok (.ireturn, 1) := by decide +kernel
theorem dX5_wraps_73 : decode cX5_wraps 73 = .ok (.aload_n 0, 1) := by decide +kernel
theorem dX5_wraps_74 : decode cX5_wraps 74 = .ok (.getfield 12, 3) := by decide +kernel
theorem dX5_wraps_77 : decode cX5_wraps 77 = .ok (.iload 5, 2) := by decide +kernel
theorem dX5_wraps_79 : decode cX5_wraps 79 = .ok (.invokevirtual 132, 3) := by decide +kernel
theorem dX5_wraps_82 : decode cX5_wraps 82 = .ok (.iload 6, 2) := by decide +kernel
theorem dX5_wraps_84 : decode cX5_wraps 84 = .ok (.idiv, 1) := by decide +kernel
theorem dX5_wraps_85 : decode cX5_wraps 85 = .ok (.ireturn, 1) := by decide +kernel
theorem dX5_away_0 : decode cX5_away 0 = .ok (.aload_n 0, 1) := by decide +kernel
theorem dX5_away_1 : decode cX5_away 1 = .ok (.getfield 20, 3) := by decide +kernel
theorem dX5_away_4 : decode cX5_away 4 = .ok (.iload_n 1, 1) := by decide +kernel
theorem dX5_away_5 : decode cX5_away 5 = .ok (.iload_n 2, 1) := by decide +kernel
theorem dX5_away_6 : decode cX5_away 6 = .ok (.iload_n 3, 1) := by decide +kernel
theorem dX5_away_7 : decode cX5_away 7 = .ok (.invokevirtual 71, 3) := by decide +kernel
theorem dX5_away_10 : decode cX5_away 10 = .ok (.istore 6, 2) := by decide +kernel
theorem dX5_away_12 : decode cX5_away 12 = .ok (.iload 6, 2) := by decide +kernel
theorem dX5_away_14 : decode cX5_away 14 = .ok (.ifCond .lt 25, 3) := by decide +kernel
theorem dX5_away_17 : decode cX5_away 17 = .ok (.iload 4, 2) := by decide +kernel
theorem dX5_away_19 : decode cX5_away 19 = .ok (.iconst 0, 1) := by decide +kernel
theorem dX5_away_20 : decode cX5_away 20 = .ok (.iconst 2, 1) := by decide +kernel
theorem dX5_away_21 : decode cX5_away 21 = .ok (.invokestatic 88, 3) := by decide +kernel
theorem dX5_away_24 : decode cX5_away 24 = .ok (.ifCond .eq 15, 3) := by decide +kernel
theorem dX5_away_27 : decode cX5_away 27 = .ok (.iload 5, 2) := by decide +kernel
theorem dX5_away_29 : decode cX5_away 29 = .ok (.iconst 0, 1) := by decide +kernel
theorem dX5_away_30 : decode cX5_away 30 = .ok (.sipush 9999, 3) := by decide +kernel
theorem dX5_away_33 : decode cX5_away 33 = .ok (.invokestatic 88, 3) := by decide +kernel
theorem dX5_away_36 : decode cX5_away 36 = .ok (.ifCond .ne 11, 3) := by decide +kernel
theorem dX5_away_39 : decode cX5_away 39 = .ok (.aload_n 0, 1) := by decide +kernel
theorem dX5_away_40 : decode cX5_away 40 = .ok (.sipush (-10002), 3) := by decide +kernel
theorem dX5_away_43 : decode cX5_away 43 = .ok (.invokevirtual 92, 3) := by decide +kernel
theorem dX5_away_46 : decode cX5_away 46 = .ok (.ireturn, 1) := by decide +kernel
theorem dX5_away_47 : decode cX5_away 47 = .ok (.aload_n 0, 1) := by decide +kernel
theorem dX5_away_48 : decode cX5_away 48 = .ok (.getfield 20, 3) := by decide +kernel
theorem dX5_away_51 : decode cX5_away 51 = .ok (.iload 6, 2) := by decide +kernel
theorem dX5_away_53 : decode cX5_away 53 = .ok (.iload 4, 2) := by decide +kernel
theorem dX5_away_55 : decode cX5_away 55 = .ok (.invokevirtual 98, 3) := by decide +kernel
theorem dX5_away_58 : decode cX5_away 58 = .ok (.aload_n 0, 1) := by decide +kernel
theorem dX5_away_59 : decode cX5_away 59 = .ok (.getfield 20, 3) := by decide +kernel
theorem dX5_away_62 : decode cX5_away 62 = .ok (.iload 6, 2) := by decide +kernel
theorem dX5_away_64 : decode cX5_away 64 = .ok (.iload 4, 2) := by decide +kernel
theorem dX5_away_66 : decode cX5_away 66 = .ok (.invokevirtual 101, 3) := by decide +kernel
theorem dX5_away_69 : decode cX5_away 69 = .ok (.aload_n 0, 1) := by decide +kernel
theorem dX5_away_70 : decode cX5_away 70 = .ok (.getfield 20, 3) := by decide +kernel
theorem dX5_away_73 : decode cX5_away 73 = .ok (.getfield 109, 3) := by decide +kernel
theorem dX5_away_76 : decode cX5_away 76 = .ok (.iload 4, 2) := by decide +kernel
theorem dX5_away_78 : decode cX5_away 78 = .ok (.iaload, 1) := by decide +kernel
theorem dX5_away_79 : decode cX5_away 79 = .ok (.invokestatic 113, 3) := by decide +kernel
theorem dX5_away_82 : decode cX5_away 82 = .ok (.istore 7, 2) := by decide +kernel
theorem dX5_away_84 : decode cX5_away 84 = .ok (.iload 7, 2) := by decide +kernel
theorem dX5_away_86 : decode cX5_away 86 = .ok (.sipush (-10001), 3) := by decide +kernel
theorem dX5_away_89 : decode cX5_away 89 = .ok (.if_icmp .ne 11, 3) := by decide +kernel
theorem dX5_away_92 : decode cX5_away 92 = .ok (.aload_n 0, 1) := by decide +kernel
theorem dX5_away_93 : decode cX5_away 93 = .ok (.sipush (-10003), 3) := by decide +kernel
theorem dX5_away_96 : decode cX5_away 96 = .ok (.invokevirtual 92, 3) := by decide +kernel
theorem dX5_away_99 : decode cX5_away 99 = .ok (.ireturn, 1) := by decide +kernel
theorem dX5_away_100 : decode cX5_away 100 = .ok (.iload 5, 2) := by decide +kernel
theorem dX5_away_102 : decode cX5_away 102 = .ok (.iload 7, 2) := by decide +kernel
theorem dX5_away_104 : decode cX5_away 104 = .ok (.aload_n 0, 1) := by decide +kernel
theorem dX5_away_105 : decode cX5_away 105 = .ok (.getfield 20, 3) := by decide +kernel
theorem dX5_away_108 : decode cX5_away 108 = .ok (.getfield 109, 3) := by decide +kernel
theorem dX5_away_111 : decode cX5_away 111 = .ok (.iload 4, 2) := by decide +kernel
theorem dX5_away_113 : decode cX5_away 113 = .ok (.iaload, 1) := by decide +kernel
theorem dX5_away_114 : decode cX5_away 114 = .ok (.invokestatic 135, 3) := by decide +kernel
theorem dX5_away_117 : decode cX5_away 117 = .ok (.ireturn, 1) := by decide +kernel
theorem dX5_mark_0 : decode cX5_mark 0 = .ok (.aload_n 0, 1) := by decide +kernel
theorem dX5_mark_1 : decode cX5_mark 1 = .ok (.getfield 20, 3) := by decide +kernel
theorem dX5_mark_4 : decode cX5_mark 4 = .ok (.iload_n 1, 1) := by decide +kernel
theorem dX5_mark_5 : decode cX5_mark 5 = .ok (.iload_n 2, 1) := by decide +kernel
theorem dX5_mark_6 : decode cX5_mark 6 = .ok (.iload_n 3, 1) := by decide +kernel
theorem dX5_mark_7 : decode cX5_mark 7 = .ok (.invokevirtual 71, 3) := by decide +kernel
theorem dX5_mark_10 : decode cX5_mark 10 = .ok (.istore 4, 2) := by decide +kernel
theorem dX5_mark_12 : decode cX5_mark 12 = .ok (.iload 4, 2) := by decide +kernel
theorem dX5_mark_14 : decode cX5_mark 14 = .ok (.ifCond .ge 13, 3) := by decide +kernel
theorem dX5_mark_17 : decode cX5_mark 17 = .ok (.aload_n 0, 1) := by decide +kernel
theorem dX5_mark_18 : decode cX5_mark 18 = .ok (.sipush (-10002), 3) := by decide +kernel
theorem dX5_mark_21 : decode cX5_mark 21 = .ok (.invokevirtual 92, 3) := by decide +kernel
theorem dX5_mark_24 : decode cX5_mark 24 = .ok (.goto 12, 3) := by decide +kernel
theorem dX5_mark_27 : decode cX5_mark 27 = .ok (.aload_n 0, 1) := by decide +kernel
theorem dX5_mark_28 : decode cX5_mark 28 = .ok (.getfield 12, 3) := by decide +kernel
theorem dX5_mark_31 : decode cX5_mark 31 = .ok (.iload 4, 2) := by decide +kernel
theorem dX5_mark_33 : decode cX5_mark 33 = .ok (.invokevirtual 129, 3) := by decide +kernel
theorem dX5_mark_36 : decode cX5_mark 36 = .ok (.ireturn, 1) := by decide +kernel
theorem dX5_cell_0 : decode cX5_cell 0 = .ok (.aload_n 0, 1) := by decide +kernel
theorem dX5_cell_1 : decode cX5_cell 1 = .ok (.getfield 20, 3) := by decide +kernel
theorem dX5_cell_4 : decode cX5_cell 4 = .ok (.iload_n 1, 1) := by decide +kernel
theorem dX5_cell_5 : decode cX5_cell 5 = .ok (.iload_n 2, 1) := by decide +kernel
theorem dX5_cell_6 : decode cX5_cell 6 = .ok (.iload_n 3, 1) := by decide +kernel
theorem dX5_cell_7 : decode cX5_cell 7 = .ok (.invokevirtual 71, 3) := by decide +kernel
theorem dX5_cell_10 : decode cX5_cell 10 = .ok (.istore 5, 2) := by decide +kernel
theorem dX5_cell_12 : decode cX5_cell 12 = .ok (.iload 5, 2) := by decide +kernel
theorem dX5_cell_14 : decode cX5_cell 14 = .ok (.ifCond .lt 13, 3) := by decide +kernel
theorem dX5_cell_17 : decode cX5_cell 17 = .ok (.iload 4, 2) := by decide +kernel
theorem dX5_cell_19 : decode cX5_cell 19 = .ok (.iconst 0, 1) := by decide +kernel
theorem dX5_cell_20 : decode cX5_cell 20 = .ok (.iconst 3, 1) := by decide +kernel
theorem dX5_cell_21 : decode cX5_cell 21 = .ok (.invokestatic 88, 3) := by decide +kernel
theorem dX5_cell_24 : decode cX5_cell 24 = .ok (.ifCond .ne 11, 3) := by decide +kernel
theorem dX5_cell_27 : decode cX5_cell 27 = .ok (.aload_n 0, 1) := by decide +kernel
theorem dX5_cell_28 : decode cX5_cell 28 = .ok (.sipush (-10002), 3) := by decide +kernel
theorem dX5_cell_31 : decode cX5_cell 31 = .ok (.invokevirtual 92, 3) := by decide +kernel
theorem dX5_cell_34 : decode cX5_cell 34 = .ok (.ireturn, 1) := by decide +kernel
theorem dX5_cell_35 : decode cX5_cell 35 = .ok (.aload_n 0, 1) := by decide +kernel
theorem dX5_cell_36 : decode cX5_cell 36 = .ok (.getfield 12, 3) := by decide +kernel
theorem dX5_cell_39 : decode cX5_cell 39 = .ok (.iload 5, 2) := by decide +kernel
theorem dX5_cell_41 : decode cX5_cell 41 = .ok (.invokevirtual 129, 3) := by decide +kernel
theorem dX5_cell_44 : decode cX5_cell 44 = .ok (.istore 6, 2) := by decide +kernel
theorem dX5_cell_46 : decode cX5_cell 46 = .ok (.iload 4, 2) := by decide +kernel
theorem dX5_cell_48 : decode cX5_cell 48 = .ok (.tableswitch 105 0 2 #[28, 53, 79], 28) := by decide +kernel
theorem dX5_cell_76 : decode cX5_cell 76 = .ok (.iload 6, 2) := by decide +kernel
theorem dX5_cell_78 : decode cX5_cell 78 = .ok (.ifCond .ne 15, 3) := by decide +kernel
theorem dX5_cell_81 : decode cX5_cell 81 = .ok (.aload_n 0, 1) := by decide +kernel
theorem dX5_cell_82 : decode cX5_cell 82 = .ok (.getfield 12, 3) := by decide +kernel
theorem dX5_cell_85 : decode cX5_cell 85 = .ok (.iload 5, 2) := by decide +kernel
theorem dX5_cell_87 : decode cX5_cell 87 = .ok (.invokevirtual 132, 3) := by decide +kernel
theorem dX5_cell_90 : decode cX5_cell 90 = .ok (.goto 10, 3) := by decide +kernel
theorem dX5_cell_93 : decode cX5_cell 93 = .ok (.aload_n 0, 1) := by decide +kernel
theorem dX5_cell_94 : decode cX5_cell 94 = .ok (.sipush (-10003), 3) := by decide +kernel
theorem dX5_cell_97 : decode cX5_cell 97 = .ok (.invokevirtual 92, 3) := by decide +kernel
theorem dX5_cell_100 : decode cX5_cell 100 = .ok (.ireturn, 1) := by decide +kernel
theorem dX5_cell_101 : decode cX5_cell 101 = .ok (.iload 6, 2) := by decide +kernel
theorem dX5_cell_103 : decode cX5_cell 103 = .ok (.iconst 4, 1) := by decide +kernel
theorem dX5_cell_104 : decode cX5_cell 104 = .ok (.if_icmp .ne 15, 3) := by decide +kernel
theorem dX5_cell_107 : decode cX5_cell 107 = .ok (.aload_n 0, 1) := by decide +kernel
theorem dX5_cell_108 : decode cX5_cell 108 = .ok (.getfield 12, 3) := by decide +kernel
theorem dX5_cell_111 : decode cX5_cell 111 = .ok (.iload 5, 2) := by decide +kernel
theorem dX5_cell_113 : decode cX5_cell 113 = .ok (.invokevirtual 138, 3) := by decide +kernel
theorem dX5_cell_116 : decode cX5_cell 116 = .ok (.goto 10, 3) := by decide +kernel
theorem dX5_cell_119 : decode cX5_cell 119 = .ok (.aload_n 0, 1) := by decide +kernel
theorem dX5_cell_120 : decode cX5_cell 120 = .ok (.sipush (-10003), 3) := by decide +kernel
theorem dX5_cell_123 : decode cX5_cell 123 = .ok (.invokevirtual 92, 3) := by decide +kernel
theorem dX5_cell_126 : decode cX5_cell 126 = .ok (.ireturn, 1) := by decide +kernel
theorem dX5_cell_127 : decode cX5_cell 127 = .ok (.iload 6, 2) := by decide +kernel
theorem dX5_cell_129 : decode cX5_cell 129 = .ok (.iconst 4, 1) := by decide +kernel
theorem dX5_cell_130 : decode cX5_cell 130 = .ok (.if_icmp .ne 15, 3) := by decide +kernel
theorem dX5_cell_133 : decode cX5_cell 133 = .ok (.aload_n 0, 1) := by decide +kernel
theorem dX5_cell_134 : decode cX5_cell 134 = .ok (.getfield 12, 3) := by decide +kernel
theorem dX5_cell_137 : decode cX5_cell 137 = .ok (.iload 5, 2) := by decide +kernel
theorem dX5_cell_139 : decode cX5_cell 139 = .ok (.invokevirtual 141, 3) := by decide +kernel
theorem dX5_cell_142 : decode cX5_cell 142 = .ok (.goto 10, 3) := by decide +kernel
theorem dX5_cell_145 : decode cX5_cell 145 = .ok (.aload_n 0, 1) := by decide +kernel
theorem dX5_cell_146 : decode cX5_cell 146 = .ok (.sipush (-10003), 3) := by decide +kernel
theorem dX5_cell_149 : decode cX5_cell 149 = .ok (.invokevirtual 92, 3) := by decide +kernel
theorem dX5_cell_152 : decode cX5_cell 152 = .ok (.ireturn, 1) := by decide +kernel
theorem dX5_cell_153 : decode cX5_cell 153 = .ok (.iload 6, 2) := by decide +kernel
theorem dX5_cell_155 : decode cX5_cell 155 = .ok (.ifCond .eq 16, 3) := by decide +kernel
theorem dX5_cell_158 : decode cX5_cell 158 = .ok (.aload_n 0, 1) := by decide +kernel
theorem dX5_cell_159 : decode cX5_cell 159 = .ok (.getfield 12, 3) := by decide +kernel
theorem dX5_cell_162 : decode cX5_cell 162 = .ok (.iload_n 1, 1) := by decide +kernel
theorem dX5_cell_163 : decode cX5_cell 163 = .ok (.iload_n 2, 1) := by decide +kernel
theorem dX5_cell_164 : decode cX5_cell 164 = .ok (.iload_n 3, 1) := by decide +kernel
theorem dX5_cell_165 : decode cX5_cell 165 = .ok (.invokevirtual 144, 3) := by decide +kernel
theorem dX5_cell_168 : decode cX5_cell 168 = .ok (.goto 10, 3) := by decide +kernel
theorem dX5_cell_171 : decode cX5_cell 171 = .ok (.aload_n 0, 1) := by decide +kernel
theorem dX5_cell_172 : decode cX5_cell 172 = .ok (.sipush (-10003), 3) := by decide +kernel
theorem dX5_cell_175 : decode cX5_cell 175 = .ok (.invokevirtual 92, 3) := by decide +kernel
theorem dX5_cell_178 : decode cX5_cell 178 = .ok (.ireturn, 1) := by decide +kernel
theorem dX5_glow_0 : decode cX5_glow 0 = .ok (.aload_n 0, 1) := by decide +kernel
theorem dX5_glow_1 : decode cX5_glow 1 = .ok (.getfield 20, 3) := by decide +kernel
theorem dX5_glow_4 : decode cX5_glow 4 = .ok (.iload_n 1, 1) := by decide +kernel
theorem dX5_glow_5 : decode cX5_glow 5 = .ok (.iload_n 2, 1) := by decide +kernel
theorem dX5_glow_6 : decode cX5_glow 6 = .ok (.iload_n 3, 1) := by decide +kernel
theorem dX5_glow_7 : decode cX5_glow 7 = .ok (.invokevirtual 71, 3) := by decide +kernel
theorem dX5_glow_10 : decode cX5_glow 10 = .ok (.istore 4, 2) := by decide +kernel
theorem dX5_glow_12 : decode cX5_glow 12 = .ok (.iload 4, 2) := by decide +kernel
theorem dX5_glow_14 : decode cX5_glow 14 = .ok (.ifCond .ge 13, 3) := by decide +kernel
theorem dX5_glow_17 : decode cX5_glow 17 = .ok (.aload_n 0, 1) := by decide +kernel
theorem dX5_glow_18 : decode cX5_glow 18 = .ok (.sipush (-10002), 3) := by decide +kernel
theorem dX5_glow_21 : decode cX5_glow 21 = .ok (.invokevirtual 92, 3) := by decide +kernel
theorem dX5_glow_24 : decode cX5_glow 24 = .ok (.goto 15, 3) := by decide +kernel
theorem dX5_glow_27 : decode cX5_glow 27 = .ok (.aload_n 0, 1) := by decide +kernel
theorem dX5_glow_28 : decode cX5_glow 28 = .ok (.getfield 20, 3) := by decide +kernel
theorem dX5_glow_31 : decode cX5_glow 31 = .ok (.iload 4, 2) := by decide +kernel
theorem dX5_glow_33 : decode cX5_glow 33 = .ok (.invokevirtual 147, 3) := by decide +kernel
theorem dX5_glow_36 : decode cX5_glow 36 = .ok (.invokestatic 123, 3) := by decide +kernel
theorem dX5_glow_39 : decode cX5_glow 39 = .ok (.ireturn, 1) := by decide +kernel
theorem dX5_motion_0 : decode cX5_motion 0 = .ok (.aload_n 0, 1) := by decide +kernel
theorem dX5_motion_1 : decode cX5_motion 1 = .ok (.getfield 20, 3) := by decide +kernel
theorem dX5_motion_4 : decode cX5_motion 4 = .ok (.iconst 0, 1) := by decide +kernel
theorem dX5_motion_5 : decode cX5_motion 5 = .ok (.iload_n 1, 1) := by decide +kernel
theorem dX5_motion_6 : decode cX5_motion 6 = .ok (.iload_n 2, 1) := by decide +kernel
theorem dX5_motion_7 : decode cX5_motion 7 = .ok (.invokevirtual 71, 3) := by decide +kernel
theorem dX5_motion_10 : decode cX5_motion 10 = .ok (.istore_n 3, 1) := by decide +kernel
theorem dX5_motion_11 : decode cX5_motion 11 = .ok (.aload_n 0, 1) := by decide +kernel
theorem dX5_motion_12 : decode cX5_motion 12 = .ok (.getfield 20, 3) := by decide +kernel
theorem dX5_motion_15 : decode cX5_motion 15 = .ok (.iconst 1, 1) := by decide +kernel
theorem dX5_motion_16 : decode cX5_motion 16 = .ok (.iload_n 1, 1) := by decide +kernel
theorem dX5_motion_17 : decode cX5_motion 17 = .ok (.iload_n 2, 1) := by decide +kernel
theorem dX5_motion_18 : decode cX5_motion 18 = .ok (.invokevirtual 71, 3) := by decide +kernel
theorem dX5_motion_21 : decode cX5_motion 21 = .ok (.istore 4, 2) := by decide +kernel
theorem dX5_motion_23 : decode cX5_motion 23 = .ok (.iload_n 3, 1) := by decide +kernel
theorem dX5_motion_24 : decode cX5_motion 24 = .ok (.ifCond .lt 8, 3) := by decide +kernel
theorem dX5_motion_27 : decode cX5_motion 27 = .ok (.iload 4, 2) := by decide +kernel
theorem dX5_motion_29 : decode cX5_motion 29 = .ok (.ifCond .ge 11, 3) := by decide +kernel
theorem dX5_motion_32 : decode cX5_motion 32 = .ok (.aload_n 0, 1) := by decide +kernel
theorem dX5_motion_33 : decode cX5_motion 33 = .ok (.sipush (-10002), 3) := by decide +kernel
theorem dX5_motion_36 : decode cX5_motion 36 = .ok (.invokevirtual 92, 3) := by decide +kernel
theorem dX5_motion_39 : decode cX5_motion 39 = .ok (.ireturn, 1) := by decide +kernel
theorem dX5_motion_40 : decode cX5_motion 40 = .ok (.aload_n 0, 1) := by decide +kernel
theorem dX5_motion_41 : decode cX5_motion 41 = .ok (.getfield 12, 3) := by decide +kernel
theorem dX5_motion_44 : decode cX5_motion 44 = .ok (.iload_n 3, 1) := by decide +kernel
theorem dX5_motion_45 : decode cX5_motion 45 = .ok (.iload 4, 2) := by decide +kernel
theorem dX5_motion_47 : decode cX5_motion 47 = .ok (.invokevirtual 151, 3) := by decide +kernel
theorem dX5_motion_50 : decode cX5_motion 50 = .ok (.istore 5, 2) := by decide +kernel
theorem dX5_motion_52 : decode cX5_motion 52 = .ok (.iload 5, 2) := by decide +kernel
theorem dX5_motion_54 : decode cX5_motion 54 = .ok (.sipush (-10001), 3) := by decide +kernel
theorem dX5_motion_57 : decode cX5_motion 57 = .ok (.if_icmp .ne 13, 3) := by decide +kernel
theorem dX5_motion_60 : decode cX5_motion 60 = .ok (.aload_n 0, 1) := by decide +kernel
theorem dX5_motion_61 : decode cX5_motion 61 = .ok (.sipush (-10003), 3) := by decide +kernel
theorem dX5_motion_64 : decode cX5_motion 64 = .ok (.invokevirtual 92, 3) := by decide +kernel
theorem dX5_motion_67 : decode cX5_motion 67 = .ok (.goto 5, 3) := by decide +kernel
theorem dX5_motion_70 : decode cX5_motion 70 = .ok (.iload 5, 2) := by decide +kernel
theorem dX5_motion_72 : decode cX5_motion 72 = .ok (.ireturn, 1) := by decide +kernel
theorem dX5_marks_0 : decode cX5_marks 0 = .ok (.iload_n 1, 1) := by decide +kernel
theorem dX5_marks_1 : decode cX5_marks 1 = .ok (.iconst 0, 1) := by decide +kernel
theorem dX5_marks_2 : decode cX5_marks 2 = .ok (.iconst 1, 1) := by decide +kernel
theorem dX5_marks_3 : decode cX5_marks 3 = .ok (.invokestatic 88, 3) := by decide +kernel
theorem dX5_marks_6 : decode cX5_marks 6 = .ok (.ifCond .eq 12, 3) := by decide +kernel
theorem dX5_marks_9 : decode cX5_marks 9 = .ok (.iload_n 2, 1) := by decide +kernel
theorem dX5_marks_10 : decode cX5_marks 10 = .ok (.iconst 0, 1) := by decide +kernel
theorem dX5_marks_11 : decode cX5_marks 11 = .ok (.iconst 5, 1) := by decide +kernel
theorem dX5_marks_12 : decode cX5_marks 12 = .ok (.invokestatic 88, 3) := by decide +kernel
theorem dX5_marks_15 : decode cX5_marks 15 = .ok (.ifCond .ne 11, 3) := by decide +kernel
theorem dX5_marks_18 : decode cX5_marks 18 = .ok (.aload_n 0, 1) := by decide +kernel
theorem dX5_marks_19 : decode cX5_marks 19 = .ok (.sipush (-10002), 3) := by decide +kernel
theorem dX5_marks_22 : decode cX5_marks 22 = .ok (.invokevirtual 92, 3) := by decide +kernel
theorem dX5_marks_25 : decode cX5_marks 25 = .ok (.ireturn, 1) := by decide +kernel
theorem dX5_marks_26 : decode cX5_marks 26 = .ok (.iconst 0, 1) := by decide +kernel
theorem dX5_marks_27 : decode cX5_marks 27 = .ok (.istore_n 3, 1) := by decide +kernel
theorem dX5_marks_28 : decode cX5_marks 28 = .ok (.iconst 0, 1) := by decide +kernel
theorem dX5_marks_29 : decode cX5_marks 29 = .ok (.istore 4, 2) := by decide +kernel
theorem dX5_marks_31 : decode cX5_marks 31 = .ok (.iload 4, 2) := by decide +kernel
theorem dX5_marks_33 : decode cX5_marks 33 = .ok (.aload_n 0, 1) := by decide +kernel
theorem dX5_marks_34 : decode cX5_marks 34 = .ok (.getfield 20, 3) := by decide +kernel
theorem dX5_marks_37 : decode cX5_marks 37 = .ok (.getfield 154, 3) := by decide +kernel
theorem dX5_marks_40 : decode cX5_marks 40 = .ok (.if_icmp .ge 61, 3) := by decide +kernel
theorem dX5_marks_43 : decode cX5_marks 43 = .ok (.iconst 0, 1) := by decide +kernel
theorem dX5_marks_44 : decode cX5_marks 44 = .ok (.istore 5, 2) := by decide +kernel
theorem dX5_marks_46 : decode cX5_marks 46 = .ok (.iload 5, 2) := by decide +kernel
theorem dX5_marks_48 : decode cX5_marks 48 = .ok (.aload_n 0, 1) := by decide +kernel
theorem dX5_marks_49 : decode cX5_marks 49 = .ok (.getfield 20, 3) := by decide +kernel
theorem dX5_marks_52 : decode cX5_marks 52 = .ok (.getfield 157, 3) := by decide +kernel
theorem dX5_marks_55 : decode cX5_marks 55 = .ok (.if_icmp .ge 40, 3) := by decide +kernel
theorem dX5_marks_58 : decode cX5_marks 58 = .ok (.iload_n 3, 1) := by decide +kernel
theorem dX5_marks_59 : decode cX5_marks 59 = .ok (.aload_n 0, 1) := by decide +kernel
theorem dX5_marks_60 : decode cX5_marks 60 = .ok (.getfield 12, 3) := by decide +kernel
theorem dX5_marks_63 : decode cX5_marks 63 = .ok (.aload_n 0, 1) := by decide +kernel
theorem dX5_marks_64 : decode cX5_marks 64 = .ok (.getfield 20, 3) := by decide +kernel
theorem dX5_marks_67 : decode cX5_marks 67 = .ok (.iload_n 1, 1) := by decide +kernel
theorem dX5_marks_68 : decode cX5_marks 68 = .ok (.iload 5, 2) := by decide +kernel
theorem dX5_marks_70 : decode cX5_marks 70 = .ok (.iload 4, 2) := by decide +kernel
theorem dX5_marks_72 : decode cX5_marks 72 = .ok (.invokevirtual 71, 3) := by decide +kernel
theorem dX5_marks_75 : decode cX5_marks 75 = .ok (.invokevirtual 129, 3) := by decide +kernel
theorem dX5_marks_78 : decode cX5_marks 78 = .ok (.iload_n 2, 1) := by decide +kernel
theorem dX5_marks_79 : decode cX5_marks 79 = .ok (.if_icmp .ne 7, 3) := by decide +kernel
theorem dX5_marks_82 : decode cX5_marks 82 = .ok (.iconst 1, 1) := by decide +kernel
theorem dX5_marks_83 : decode cX5_marks 83 = .ok (.goto 4, 3) := by decide +kernel
theorem dX5_marks_86 : decode cX5_marks 86 = .ok (.iconst 0, 1) := by decide +kernel
theorem dX5_marks_87 : decode cX5_marks 87 = .ok (.iadd, 1) := by decide +kernel
theorem dX5_marks_88 : decode cX5_marks 88 = .ok (.istore_n 3, 1) := by decide +kernel
theorem dX5_marks_89 : decode cX5_marks 89 = .ok (.iinc 5 1, 3) := by decide +kernel
theorem dX5_marks_92 : decode cX5_marks 92 = .ok (.goto (-46), 3) := by decide +kernel
theorem dX5_marks_95 : decode cX5_marks 95 = .ok (.iinc 4 1, 3) := by decide +kernel
theorem dX5_marks_98 : decode cX5_marks 98 = .ok (.goto (-67), 3) := by decide +kernel
theorem dX5_marks_101 : decode cX5_marks 101 = .ok (.iload_n 3, 1) := by decide +kernel
theorem dX5_marks_102 : decode cX5_marks 102 = .ok (.ireturn, 1) := by decide +kernel
theorem dX5_moved_0 : decode cX5_moved 0 = .ok (.iconst 0, 1) := by decide +kernel
theorem dX5_moved_1 : decode cX5_moved 1 = .ok (.istore_n 1, 1) := by decide +kernel
theorem dX5_moved_2 : decode cX5_moved 2 = .ok (.iconst 0, 1) := by decide +kernel
theorem dX5_moved_3 : decode cX5_moved 3 = .ok (.istore_n 2, 1) := by decide +kernel
theorem dX5_moved_4 : decode cX5_moved 4 = .ok (.iload_n 2, 1) := by decide +kernel
theorem dX5_moved_5 : decode cX5_moved 5 = .ok (.aload_n 0, 1) := by decide +kernel
theorem dX5_moved_6 : decode cX5_moved 6 = .ok (.getfield 20, 3) := by decide +kernel
theorem dX5_moved_9 : decode cX5_moved 9 = .ok (.getfield 154, 3) := by decide +kernel
theorem dX5_moved_12 : decode cX5_moved 12 = .ok (.if_icmp .ge 90, 3) := by decide +kernel
theorem dX5_moved_15 : decode cX5_moved 15 = .ok (.iconst 0, 1) := by decide +kernel
theorem dX5_moved_16 : decode cX5_moved 16 = .ok (.istore_n 3, 1) := by decide +kernel
theorem dX5_moved_17 : decode cX5_moved 17 = .ok (.iload_n 3, 1) := by decide +kernel
theorem dX5_moved_18 : decode cX5_moved 18 = .ok (.aload_n 0, 1) := by decide +kernel
theorem dX5_moved_19 : decode cX5_moved 19 = .ok (.getfield 20, 3) := by decide +kernel
theorem dX5_moved_22 : decode cX5_moved 22 = .ok (.getfield 157, 3) := by decide +kernel
theorem dX5_moved_25 : decode cX5_moved 25 = .ok (.if_icmp .ge 71, 3) := by decide +kernel
theorem dX5_moved_28 : decode cX5_moved 28 = .ok (.aload_n 0, 1) := by decide +kernel
theorem dX5_moved_29 : decode cX5_moved 29 = .ok (.getfield 12, 3) := by decide +kernel
theorem dX5_moved_32 : decode cX5_moved 32 = .ok (.aload_n 0, 1) := by decide +kernel
theorem dX5_moved_33 : decode cX5_moved 33 = .ok (.getfield 20, 3) := by decide +kernel
theorem dX5_moved_36 : decode cX5_moved 36 = .ok (.iconst 0, 1) := by decide +kernel
theorem dX5_moved_37 : decode cX5_moved 37 = .ok (.iload_n 3, 1) := by decide +kernel
theorem dX5_moved_38 : decode cX5_moved 38 = .ok (.iload_n 2, 1) := by decide +kernel
theorem dX5_moved_39 : decode cX5_moved 39 = .ok (.invokevirtual 71, 3) := by decide +kernel
theorem dX5_moved_42 : decode cX5_moved 42 = .ok (.aload_n 0, 1) := by decide +kernel
theorem dX5_moved_43 : decode cX5_moved 43 = .ok (.getfield 20, 3) := by decide +kernel
theorem dX5_moved_46 : decode cX5_moved 46 = .ok (.iconst 1, 1) := by decide +kernel
theorem dX5_moved_47 : decode cX5_moved 47 = .ok (.iload_n 3, 1) := by decide +kernel
theorem dX5_moved_48 : decode cX5_moved 48 = .ok (.iload_n 2, 1) := by decide +kernel
theorem dX5_moved_49 : decode cX5_moved 49 = .ok (.invokevirtual 71, 3) := by decide +kernel
theorem dX5_moved_52 : decode cX5_moved 52 = .ok (.invokevirtual 151, 3) := by decide +kernel
theorem dX5_moved_55 : decode cX5_moved 55 = .ok (.istore 4, 2) := by decide +kernel
theorem dX5_moved_57 : decode cX5_moved 57 = .ok (.iload_n 1, 1) := by decide +kernel
theorem dX5_moved_58 : decode cX5_moved 58 = .ok (.iload 4, 2) := by decide +kernel
theorem dX5_moved_60 : decode cX5_moved 60 = .ok (.sipush (-10001), 3) := by decide +kernel
theorem dX5_moved_63 : decode cX5_moved 63 = .ok (.if_icmp .eq 24, 3) := by decide +kernel
theorem dX5_moved_66 : decode cX5_moved 66 = .ok (.iload 4, 2) := by decide +kernel
theorem dX5_moved_68 : decode cX5_moved 68 = .ok (.invokestatic 160, 3) := by decide +kernel
theorem dX5_moved_71 : decode cX5_moved 71 = .ok (.aload_n 0, 1) := by decide +kernel
theorem dX5_moved_72 : decode cX5_moved 72 = .ok (.getfield 20, 3) := by decide +kernel
theorem dX5_moved_75 : decode cX5_moved 75 = .ok (.getfield 165, 3) := by decide +kernel
theorem dX5_moved_78 : decode cX5_moved 78 = .ok (.iconst 5, 1) := by decide +kernel
theorem dX5_moved_79 : decode cX5_moved 79 = .ok (.iaload, 1) := by decide +kernel
theorem dX5_moved_80 : decode cX5_moved 80 = .ok (.if_icmp .le 7, 3) := by decide +kernel
theorem dX5_moved_83 : decode cX5_moved 83 = .ok (.iconst 1, 1) := by decide +kernel
theorem dX5_moved_84 : decode cX5_moved 84 = .ok (.goto 4, 3) := by decide +kernel
theorem dX5_moved_87 : decode cX5_moved 87 = .ok (.iconst 0, 1) := by decide +kernel
theorem dX5_moved_88 : decode cX5_moved 88 = .ok (.iadd, 1) := by decide +kernel
theorem dX5_moved_89 : decode cX5_moved 89 = .ok (.istore_n 1, 1) := by decide +kernel
theorem dX5_moved_90 : decode cX5_moved 90 = .ok (.iinc 3 1, 3) := by decide +kernel
theorem dX5_moved_93 : decode cX5_moved 93 = .ok (.goto (-76), 3) := by decide +kernel
theorem dX5_moved_96 : decode cX5_moved 96 = .ok (.iinc 2 1, 3) := by decide +kernel
theorem dX5_moved_99 : decode cX5_moved 99 = .ok (.goto (-95), 3) := by decide +kernel
theorem dX5_moved_102 : decode cX5_moved 102 = .ok (.iload_n 1, 1) := by decide +kernel
theorem dX5_moved_103 : decode cX5_moved 103 = .ok (.ireturn, 1) := by decide +kernel
theorem dX5_mean_0 : decode cX5_mean 0 = .ok (.iload_n 1, 1) := by decide +kernel
theorem dX5_mean_1 : decode cX5_mean 1 = .ok (.iconst 0, 1) := by decide +kernel
theorem dX5_mean_2 : decode cX5_mean 2 = .ok (.iconst 1, 1) := by decide +kernel
theorem dX5_mean_3 : decode cX5_mean 3 = .ok (.invokestatic 88, 3) := by decide +kernel
theorem dX5_mean_6 : decode cX5_mean 6 = .ok (.ifCond .eq 14, 3) := by decide +kernel
theorem dX5_mean_9 : decode cX5_mean 9 = .ok (.aload_n 0, 1) := by decide +kernel
theorem dX5_mean_10 : decode cX5_mean 10 = .ok (.getfield 12, 3) := by decide +kernel
theorem dX5_mean_13 : decode cX5_mean 13 = .ok (.iload_n 1, 1) := by decide +kernel
theorem dX5_mean_14 : decode cX5_mean 14 = .ok (.invokevirtual 168, 3) := by decide +kernel
theorem dX5_mean_17 : decode cX5_mean 17 = .ok (.goto 11, 3) := by decide +kernel
theorem dX5_mean_20 : decode cX5_mean 20 = .ok (.aload_n 0, 1) := by decide +kernel
theorem dX5_mean_21 : decode cX5_mean 21 = .ok (.sipush (-10002), 3) := by decide +kernel
theorem dX5_mean_24 : decode cX5_mean 24 = .ok (.invokevirtual 92, 3) := by decide +kernel
theorem dX5_mean_27 : decode cX5_mean 27 = .ok (.i2l, 1) := by decide +kernel
theorem dX5_mean_28 : decode cX5_mean 28 = .ok (.lreturn, 1) := by decide +kernel
theorem dX5_told_0 : decode cX5_told 0 = .ok (.iload_n 1, 1) := by decide +kernel
theorem dX5_told_1 : decode cX5_told 1 = .ok (.iconst 0, 1) := by decide +kernel
theorem dX5_told_2 : decode cX5_told 2 = .ok (.bipush 10, 2) := by decide +kernel
theorem dX5_told_4 : decode cX5_told 4 = .ok (.invokestatic 88, 3) := by decide +kernel
theorem dX5_told_7 : decode cX5_told 7 = .ok (.ifCond .eq 14, 3) := by decide +kernel
theorem dX5_told_10 : decode cX5_told 10 = .ok (.aload_n 0, 1) := by decide +kernel
theorem dX5_told_11 : decode cX5_told 11 = .ok (.getfield 20, 3) := by decide +kernel
theorem dX5_told_14 : decode cX5_told 14 = .ok (.iload_n 1, 1) := by decide +kernel
theorem dX5_told_15 : decode cX5_told 15 = .ok (.invokevirtual 172, 3) := by decide +kernel
theorem dX5_told_18 : decode cX5_told 18 = .ok (.goto 10, 3) := by decide +kernel
theorem dX5_told_21 : decode cX5_told 21 = .ok (.aload_n 0, 1) := by decide +kernel
theorem dX5_told_22 : decode cX5_told 22 = .ok (.sipush (-10002), 3) := by decide +kernel
theorem dX5_told_25 : decode cX5_told 25 = .ok (.invokevirtual 92, 3) := by decide +kernel
theorem dX5_told_28 : decode cX5_told 28 = .ok (.ireturn, 1) := by decide +kernel
theorem dX5_type_0 : decode cX5_type 0 = .ok (.iload_n 1, 1) := by decide +kernel
theorem dX5_type_1 : decode cX5_type 1 = .ok (.iconst 0, 1) := by decide +kernel
theorem dX5_type_2 : decode cX5_type 2 = .ok (.bipush 127, 2) := by decide +kernel
theorem dX5_type_4 : decode cX5_type 4 = .ok (.invokestatic 88, 3) := by decide +kernel
theorem dX5_type_7 : decode cX5_type 7 = .ok (.ifCond .ne 11, 3) := by decide +kernel
theorem dX5_type_10 : decode cX5_type 10 = .ok (.aload_n 0, 1) := by decide +kernel
theorem dX5_type_11 : decode cX5_type 11 = .ok (.sipush (-10002), 3) := by decide +kernel
theorem dX5_type_14 : decode cX5_type 14 = .ok (.invokevirtual 92, 3) := by decide +kernel
theorem dX5_type_17 : decode cX5_type 17 = .ok (.ireturn, 1) := by decide +kernel
theorem dX5_type_18 : decode cX5_type 18 = .ok (.aload_n 0, 1) := by decide +kernel
theorem dX5_type_19 : decode cX5_type 19 = .ok (.getfield 40, 3) := by decide +kernel
theorem dX5_type_22 : decode cX5_type 22 = .ok (.iload_n 1, 1) := by decide +kernel
theorem dX5_type_23 : decode cX5_type 23 = .ok (.invokevirtual 175, 3) := by decide +kernel
theorem dX5_type_26 : decode cX5_type 26 = .ok (.ifCond .eq 13, 3) := by decide +kernel
theorem dX5_type_29 : decode cX5_type 29 = .ok (.aload_n 0, 1) := by decide +kernel
theorem dX5_type_30 : decode cX5_type 30 = .ok (.getfield 40, 3) := by decide +kernel
theorem dX5_type_33 : decode cX5_type 33 = .ok (.getfield 179, 3) := by decide +kernel
theorem dX5_type_36 : decode cX5_type 36 = .ok (.goto 10, 3) := by decide +kernel
theorem dX5_type_39 : decode cX5_type 39 = .ok (.aload_n 0, 1) := by decide +kernel
theorem dX5_type_40 : decode cX5_type 40 = .ok (.sipush (-10004), 3) := by decide +kernel
theorem dX5_type_43 : decode cX5_type 43 = .ok (.invokevirtual 92, 3) := by decide +kernel
theorem dX5_type_46 : decode cX5_type 46 = .ok (.ireturn, 1) := by decide +kernel
theorem dX5_clear_0 : decode cX5_clear 0 = .ok (.aload_n 0, 1) := by decide +kernel
theorem dX5_clear_1 : decode cX5_clear 1 = .ok (.getfield 40, 3) := by decide +kernel
theorem dX5_clear_4 : decode cX5_clear 4 = .ok (.getfield 179, 3) := by decide +kernel
theorem dX5_clear_7 : decode cX5_clear 7 = .ok (.istore_n 1, 1) := by decide +kernel
theorem dX5_clear_8 : decode cX5_clear 8 = .ok (.aload_n 0, 1) := by decide +kernel
theorem dX5_clear_9 : decode cX5_clear 9 = .ok (.getfield 40, 3) := by decide +kernel
theorem dX5_clear_12 : decode cX5_clear 12 = .ok (.iconst 0, 1) := by decide +kernel
theorem dX5_clear_13 : decode cX5_clear 13 = .ok (.putfield 179, 3) := by decide +kernel
theorem dX5_clear_16 : decode cX5_clear 16 = .ok (.iload_n 1, 1) := by decide +kernel
theorem dX5_clear_17 : decode cX5_clear 17 = .ok (.ireturn, 1) := by decide +kernel
theorem dX5_does_0 : decode cX5_does 0 = .ok (.aload_n 0, 1) := by decide +kernel
theorem dX5_does_1 : decode cX5_does 1 = .ok (.getfield 40, 3) := by decide +kernel
theorem dX5_does_4 : decode cX5_does 4 = .ok (.invokevirtual 182, 3) := by decide +kernel
theorem dX5_does_7 : decode cX5_does 7 = .ok (.istore_n 1, 1) := by decide +kernel
theorem dX5_does_8 : decode cX5_does 8 = .ok (.iload_n 1, 1) := by decide +kernel
theorem dX5_does_9 : decode cX5_does 9 = .ok (.ifCond .lt 8, 3) := by decide +kernel
theorem dX5_does_12 : decode cX5_does 12 = .ok (.bipush (-10), 2) := by decide +kernel
theorem dX5_does_14 : decode cX5_does 14 = .ok (.iload_n 1, 1) := by decide +kernel
theorem dX5_does_15 : decode cX5_does 15 = .ok (.isub, 1) := by decide +kernel
theorem dX5_does_16 : decode cX5_does 16 = .ok (.ireturn, 1) := by decide +kernel
theorem dX5_does_17 : decode cX5_does 17 = .ok (.aload_n 0, 1) := by decide +kernel
theorem dX5_does_18 : decode cX5_does 18 = .ok (.getfield 26, 3) := by decide +kernel
theorem dX5_does_21 : decode cX5_does 21 = .ok (.aload_n 0, 1) := by decide +kernel
theorem dX5_does_22 : decode cX5_does 22 = .ok (.getfield 20, 3) := by decide +kernel
theorem dX5_does_25 : decode cX5_does 25 = .ok (.invokevirtual 53, 3) := by decide +kernel
theorem dX5_does_28 : decode cX5_does 28 = .ok (.iconst 0, 1) := by decide +kernel
theorem dX5_does_29 : decode cX5_does 29 = .ok (.istore_n 2, 1) := by decide +kernel
theorem dX5_does_30 : decode cX5_does 30 = .ok (.iconst 0, 1) := by decide +kernel
theorem dX5_does_31 : decode cX5_does 31 = .ok (.istore_n 3, 1) := by decide +kernel
theorem dX5_does_32 : decode cX5_does 32 = .ok (.iload_n 3, 1) := by decide +kernel
theorem dX5_does_33 : decode cX5_does 33 = .ok (.aload_n 0, 1) := by decide +kernel
theorem dX5_does_34 : decode cX5_does 34 = .ok (.getfield 40, 3) := by decide +kernel
theorem dX5_does_37 : decode cX5_does 37 = .ok (.getfield 186, 3) := by decide +kernel
theorem dX5_does_40 : decode cX5_does 40 = .ok (.if_icmp .ge 53, 3) := by decide +kernel
theorem dX5_does_43 : decode cX5_does 43 = .ok (.aload_n 0, 1) := by decide +kernel
theorem dX5_does_44 : decode cX5_does 44 = .ok (.iload_n 2, 1) := by decide +kernel
theorem dX5_does_45 : decode cX5_does 45 = .ok (.invokevirtual 189, 3) := by decide +kernel
theorem dX5_does_48 : decode cX5_does 48 = .ok (.sipush (-10002), 3) := by decide +kernel
theorem dX5_does_51 : decode cX5_does 51 = .ok (.if_icmp .ne 20, 3) := by decide +kernel
theorem dX5_does_54 : decode cX5_does 54 = .ok (.aload_n 0, 1) := by decide +kernel
theorem dX5_does_55 : decode cX5_does 55 = .ok (.getfield 20, 3) := by decide +kernel
theorem dX5_does_58 : decode cX5_does 58 = .ok (.aload_n 0, 1) := by decide +kernel
theorem dX5_does_59 : decode cX5_does 59 = .ok (.getfield 26, 3) := by decide +kernel
theorem dX5_does_62 : decode cX5_does 62 = .ok (.invokevirtual 53, 3) := by decide +kernel
theorem dX5_does_65 : decode cX5_does 65 = .ok (.sipush (-1000), 3) := by decide +kernel
theorem dX5_does_68 : decode cX5_does 68 = .ok (.iload_n 3, 1) := by decide +kernel
theorem dX5_does_69 : decode cX5_does 69 = .ok (.isub, 1) := by decide +kernel
theorem dX5_does_70 : decode cX5_does 70 = .ok (.ireturn, 1) := by decide +kernel
theorem dX5_does_71 : decode cX5_does 71 = .ok (.iload_n 2, 1) := by decide +kernel
theorem dX5_does_72 : decode cX5_does 72 = .ok (.iconst 1, 1) := by decide +kernel
theorem dX5_does_73 : decode cX5_does 73 = .ok (.aload_n 0, 1) := by decide +kernel
theorem dX5_does_74 : decode cX5_does 74 = .ok (.getfield 40, 3) := by decide +kernel
theorem dX5_does_77 : decode cX5_does 77 = .ok (.iload_n 2, 1) := by decide +kernel
theorem dX5_does_78 : decode cX5_does 78 = .ok (.invokevirtual 192, 3) := by decide +kernel
theorem dX5_does_81 : decode cX5_does 81 = .ok (.invokestatic 195, 3) := by decide +kernel
theorem dX5_does_84 : decode cX5_does 84 = .ok (.iadd, 1) := by decide +kernel
theorem dX5_does_85 : decode cX5_does 85 = .ok (.iadd, 1) := by decide +kernel
theorem dX5_does_86 : decode cX5_does 86 = .ok (.istore_n 2, 1) := by decide +kernel
theorem dX5_does_87 : decode cX5_does 87 = .ok (.iinc 3 1, 3) := by decide +kernel
theorem dX5_does_90 : decode cX5_does 90 = .ok (.goto (-58), 3) := by decide +kernel
theorem dX5_does_93 : decode cX5_does 93 = .ok (.aload_n 0, 1) := by decide +kernel
theorem dX5_does_94 : decode cX5_does 94 = .ok (.invokevirtual 198, 3) := by decide +kernel
theorem dX5_does_97 : decode cX5_does 97 = .ok (.aload_n 0, 1) := by decide +kernel
theorem dX5_does_98 : decode cX5_does 98 = .ok (.getfield 40, 3) := by decide +kernel
theorem dX5_does_101 : decode cX5_does 101 = .ok (.getfield 186, 3) := by decide +kernel
theorem dX5_does_104 : decode cX5_does 104 = .ok (.ireturn, 1) := by decide +kernel
theorem dX5_back_0 : decode cX5_back 0 = .ok (.aload_n 0, 1) := by decide +kernel
theorem dX5_back_1 : decode cX5_back 1 = .ok (.getfield 33, 3) := by decide +kernel
theorem dX5_back_4 : decode cX5_back 4 = .ok (.iconst 1, 1) := by decide +kernel
theorem dX5_back_5 : decode cX5_back 5 = .ok (.if_icmp .lt 11, 3) := by decide +kernel
theorem dX5_back_8 : decode cX5_back 8 = .ok (.aload_n 0, 1) := by decide +kernel
theorem dX5_back_9 : decode cX5_back 9 = .ok (.getfield 33, 3) := by decide +kernel
theorem dX5_back_12 : decode cX5_back 12 = .ok (.iconst 5, 1) := by decide +kernel
theorem dX5_back_13 : decode cX5_back 13 = .ok (.if_icmp .le 11, 3) := by decide +kernel
theorem dX5_back_16 : decode cX5_back 16 = .ok (.aload_n 0, 1) := by decide +kernel
theorem dX5_back_17 : decode cX5_back 17 = .ok (.sipush (-10003), 3) := by decide +kernel
theorem dX5_back_20 : decode cX5_back 20 = .ok (.invokevirtual 92, 3) := by decide +kernel
theorem dX5_back_23 : decode cX5_back 23 = .ok (.ireturn, 1) := by decide +kernel
theorem dX5_back_24 : decode cX5_back 24 = .ok (.aload_n 0, 1) := by decide +kernel
theorem dX5_back_25 : decode cX5_back 25 = .ok (.dup, 1) := by decide +kernel
theorem dX5_back_26 : decode cX5_back 26 = .ok (.getfield 33, 3) := by decide +kernel
theorem dX5_back_29 : decode cX5_back 29 = .ok (.iconst 1, 1) := by decide +kernel
theorem dX5_back_30 : decode cX5_back 30 = .ok (.isub, 1) := by decide +kernel
theorem dX5_back_31 : decode cX5_back 31 = .ok (.putfield 33, 3) := by decide +kernel
theorem dX5_back_34 : decode cX5_back 34 = .ok (.aload_n 0, 1) := by decide +kernel
theorem dX5_back_35 : decode cX5_back 35 = .ok (.getfield 20, 3) := by decide +kernel
theorem dX5_back_38 : decode cX5_back 38 = .ok (.aload_n 0, 1) := by decide +kernel
theorem dX5_back_39 : decode cX5_back 39 = .ok (.getfield 29, 3) := by decide +kernel
theorem dX5_back_42 : decode cX5_back 42 = .ok (.aload_n 0, 1) := by decide +kernel
theorem dX5_back_43 : decode cX5_back 43 = .ok (.getfield 33, 3) := by decide +kernel
theorem dX5_back_46 : decode cX5_back 46 = .ok (.aaload, 1) := by decide +kernel
theorem dX5_back_47 : decode cX5_back 47 = .ok (.invokevirtual 53, 3) := by decide +kernel
theorem dX5_back_50 : decode cX5_back 50 = .ok (.aload_n 0, 1) := by decide +kernel
theorem dX5_back_51 : decode cX5_back 51 = .ok (.getfield 12, 3) := by decide +kernel
theorem dX5_back_54 : decode cX5_back 54 = .ok (.invokevirtual 201, 3) := by decide +kernel
theorem dX5_back_57 : decode cX5_back 57 = .ok (.aload_n 0, 1) := by decide +kernel
theorem dX5_back_58 : decode cX5_back 58 = .ok (.getfield 33, 3) := by decide +kernel
theorem dX5_back_61 : decode cX5_back 61 = .ok (.ireturn, 1) := by decide +kernel
theorem dX5_refused_0 : decode cX5_refused 0 = .ok (.iload_n 1, 1) := by decide +kernel
theorem dX5_refused_1 : decode cX5_refused 1 = .ok (.iconst 0, 1) := by decide +kernel
theorem dX5_refused_2 : decode cX5_refused 2 = .ok (.iconst 4, 1) := by decide +kernel
theorem dX5_refused_3 : decode cX5_refused 3 = .ok (.invokestatic 88, 3) := by decide +kernel
theorem dX5_refused_6 : decode cX5_refused 6 = .ok (.ifCond .eq 11, 3) := by decide +kernel
theorem dX5_refused_9 : decode cX5_refused 9 = .ok (.aload_n 0, 1) := by decide +kernel
theorem dX5_refused_10 : decode cX5_refused 10 = .ok (.iload_n 1, 1) := by decide +kernel
theorem dX5_refused_11 : decode cX5_refused 11 = .ok (.invokevirtual 204, 3) := by decide +kernel
theorem dX5_refused_14 : decode cX5_refused 14 = .ok (.goto 10, 3) := by decide +kernel
theorem dX5_refused_17 : decode cX5_refused 17 = .ok (.aload_n 0, 1) := by decide +kernel
theorem dX5_refused_18 : decode cX5_refused 18 = .ok (.sipush (-10002), 3) := by decide +kernel
theorem dX5_refused_21 : decode cX5_refused 21 = .ok (.invokevirtual 92, 3) := by decide +kernel
theorem dX5_refused_24 : decode cX5_refused 24 = .ok (.ireturn, 1) := by decide +kernel
theorem dX5_digest_0 : decode cX5_digest 0 = .ok (.ldc2_w 207, 3) := by decide +kernel
theorem dX5_digest_3 : decode cX5_digest 3 = .ok (.lstore_n 1, 1) := by decide +kernel
theorem dX5_digest_4 : decode cX5_digest 4 = .ok (.iconst 0, 1) := by decide +kernel
theorem dX5_digest_5 : decode cX5_digest 5 = .ok (.istore_n 3, 1) := by decide +kernel
theorem dX5_digest_6 : decode cX5_digest 6 = .ok (.iload_n 3, 1) := by decide +kernel
theorem dX5_digest_7 : decode cX5_digest 7 = .ok (.iconst 4, 1) := by decide +kernel
theorem dX5_digest_8 : decode cX5_digest 8 = .ok (.if_icmp .gt 22, 3) := by decide +kernel
theorem dX5_digest_11 : decode cX5_digest 11 = .ok (.ldc2_w 209, 3) := by decide +kernel
theorem dX5_digest_14 : decode cX5_digest 14 = .ok (.lload_n 1, 1) := by decide +kernel
theorem dX5_digest_15 : decode cX5_digest 15 = .ok (.lmul, 1) := by decide +kernel
theorem dX5_digest_16 : decode cX5_digest 16 = .ok (.aload_n 0, 1) := by decide +kernel
theorem dX5_digest_17 : decode cX5_digest 17 = .ok (.iload_n 3, 1) := by decide +kernel
theorem dX5_digest_18 : decode cX5_digest 18 = .ok (.invokevirtual 204, 3) := by decide +kernel
theorem dX5_digest_21 : decode cX5_digest 21 = .ok (.i2l, 1) := by decide +kernel
theorem dX5_digest_22 : decode cX5_digest 22 = .ok (.ladd, 1) := by decide +kernel
theorem dX5_digest_23 : decode cX5_digest 23 = .ok (.lstore_n 1, 1) := by decide +kernel
theorem dX5_digest_24 : decode cX5_digest 24 = .ok (.iinc 3 1, 3) := by decide +kernel
theorem dX5_digest_27 : decode cX5_digest 27 = .ok (.goto (-21), 3) := by decide +kernel
theorem dX5_digest_30 : decode cX5_digest 30 = .ok (.iconst 0, 1) := by decide +kernel
theorem dX5_digest_31 : decode cX5_digest 31 = .ok (.istore_n 3, 1) := by decide +kernel
theorem dX5_digest_32 : decode cX5_digest 32 = .ok (.iload_n 3, 1) := by decide +kernel
theorem dX5_digest_33 : decode cX5_digest 33 = .ok (.bipush 10, 2) := by decide +kernel
theorem dX5_digest_35 : decode cX5_digest 35 = .ok (.if_icmp .gt 25, 3) := by decide +kernel
theorem dX5_digest_38 : decode cX5_digest 38 = .ok (.ldc2_w 209, 3) := by decide +kernel
theorem dX5_digest_41 : decode cX5_digest 41 = .ok (.lload_n 1, 1) := by decide +kernel
theorem dX5_digest_42 : decode cX5_digest 42 = .ok (.lmul, 1) := by decide +kernel
theorem dX5_digest_43 : decode cX5_digest 43 = .ok (.aload_n 0, 1) := by decide +kernel
theorem dX5_digest_44 : decode cX5_digest 44 = .ok (.getfield 20, 3) := by decide +kernel
theorem dX5_digest_47 : decode cX5_digest 47 = .ok (.iload_n 3, 1) := by decide +kernel
theorem dX5_digest_48 : decode cX5_digest 48 = .ok (.invokevirtual 172, 3) := by decide +kernel
theorem dX5_digest_51 : decode cX5_digest 51 = .ok (.i2l, 1) := by decide +kernel
theorem dX5_digest_52 : decode cX5_digest 52 = .ok (.ladd, 1) := by decide +kernel
theorem dX5_digest_53 : decode cX5_digest 53 = .ok (.lstore_n 1, 1) := by decide +kernel
theorem dX5_digest_54 : decode cX5_digest 54 = .ok (.iinc 3 1, 3) := by decide +kernel
theorem dX5_digest_57 : decode cX5_digest 57 = .ok (.goto (-25), 3) := by decide +kernel
theorem dX5_digest_60 : decode cX5_digest 60 = .ok (.iconst 0, 1) := by decide +kernel
theorem dX5_digest_61 : decode cX5_digest 61 = .ok (.istore_n 3, 1) := by decide +kernel
theorem dX5_digest_62 : decode cX5_digest 62 = .ok (.iload_n 3, 1) := by decide +kernel
theorem dX5_digest_63 : decode cX5_digest 63 = .ok (.iconst 2, 1) := by decide +kernel
theorem dX5_digest_64 : decode cX5_digest 64 = .ok (.if_icmp .ge 62, 3) := by decide +kernel
theorem dX5_digest_67 : decode cX5_digest 67 = .ok (.iconst 0, 1) := by decide +kernel
theorem dX5_digest_68 : decode cX5_digest 68 = .ok (.istore 4, 2) := by decide +kernel
theorem dX5_digest_70 : decode cX5_digest 70 = .ok (.iload 4, 2) := by decide +kernel
theorem dX5_digest_72 : decode cX5_digest 72 = .ok (.aload_n 0, 1) := by decide +kernel
theorem dX5_digest_73 : decode cX5_digest 73 = .ok (.getfield 20, 3) := by decide +kernel
theorem dX5_digest_76 : decode cX5_digest 76 = .ok (.getfield 154, 3) := by decide +kernel
theorem dX5_digest_79 : decode cX5_digest 79 = .ok (.if_icmp .ge 41, 3) := by decide +kernel
theorem dX5_digest_82 : decode cX5_digest 82 = .ok (.iconst 0, 1) := by decide +kernel
theorem dX5_digest_83 : decode cX5_digest 83 = .ok (.istore 5, 2) := by decide +kernel
theorem dX5_digest_85 : decode cX5_digest 85 = .ok (.iload 5, 2) := by decide +kernel
theorem dX5_digest_87 : decode cX5_digest 87 = .ok (.aload_n 0, 1) := by decide +kernel
theorem dX5_digest_88 : decode cX5_digest 88 = .ok (.getfield 20, 3) := by decide +kernel
theorem dX5_digest_91 : decode cX5_digest 91 = .ok (.getfield 157, 3) := by decide +kernel
theorem dX5_digest_94 : decode cX5_digest 94 = .ok (.if_icmp .ge 20, 3) := by decide +kernel
theorem dX5_digest_97 : decode cX5_digest 97 = .ok (.aload_n 0, 1) := by decide +kernel
theorem dX5_digest_98 : decode cX5_digest 98 = .ok (.lload_n 1, 1) := by decide +kernel
theorem dX5_digest_99 : decode cX5_digest 99 = .ok (.iload_n 3, 1) := by decide +kernel
theorem dX5_digest_100 : decode cX5_digest 100 = .ok (.iload 5, 2) := by decide +kernel
theorem dX5_digest_102 : decode cX5_digest 102 = .ok (.iload 4, 2) := by decide +kernel
theorem dX5_digest_104 : decode cX5_digest 104 = .ok (.invokevirtual 211, 3) := by decide +kernel
theorem dX5_digest_107 : decode cX5_digest 107 = .ok (.lstore_n 1, 1) := by decide +kernel
theorem dX5_digest_108 : decode cX5_digest 108 = .ok (.iinc 5 1, 3) := by decide +kernel
theorem dX5_digest_111 : decode cX5_digest 111 = .ok (.goto (-26), 3) := by decide +kernel
theorem dX5_digest_114 : decode cX5_digest 114 = .ok (.iinc 4 1, 3) := by decide +kernel
theorem dX5_digest_117 : decode cX5_digest 117 = .ok (.goto (-47), 3) := by decide +kernel
theorem dX5_digest_120 : decode cX5_digest 120 = .ok (.iinc 3 1, 3) := by decide +kernel
theorem dX5_digest_123 : decode cX5_digest 123 = .ok (.goto (-61), 3) := by decide +kernel
theorem dX5_digest_126 : decode cX5_digest 126 = .ok (.iconst 0, 1) := by decide +kernel
theorem dX5_digest_127 : decode cX5_digest 127 = .ok (.istore_n 3, 1) := by decide +kernel
theorem dX5_digest_128 : decode cX5_digest 128 = .ok (.iload_n 3, 1) := by decide +kernel
theorem dX5_digest_129 : decode cX5_digest 129 = .ok (.iconst 2, 1) := by decide +kernel
theorem dX5_digest_130 : decode cX5_digest 130 = .ok (.if_icmp .ge 24, 3) := by decide +kernel
theorem dX5_digest_133 : decode cX5_digest 133 = .ok (.ldc2_w 209, 3) := by decide +kernel
theorem dX5_digest_136 : decode cX5_digest 136 = .ok (.lload_n 1, 1) := by decide +kernel
theorem dX5_digest_137 : decode cX5_digest 137 = .ok (.lmul, 1) := by decide +kernel
theorem dX5_digest_138 : decode cX5_digest 138 = .ok (.aload_n 0, 1) := by decide +kernel
theorem dX5_digest_139 : decode cX5_digest 139 = .ok (.getfield 12, 3) := by decide +kernel
theorem dX5_digest_142 : decode cX5_digest 142 = .ok (.iload_n 3, 1) := by decide +kernel
theorem dX5_digest_143 : decode cX5_digest 143 = .ok (.invokevirtual 168, 3) := by decide +kernel
theorem dX5_digest_146 : decode cX5_digest 146 = .ok (.ladd, 1) := by decide +kernel
theorem dX5_digest_147 : decode cX5_digest 147 = .ok (.lstore_n 1, 1) := by decide +kernel
theorem dX5_digest_148 : decode cX5_digest 148 = .ok (.iinc 3 1, 3) := by decide +kernel
theorem dX5_digest_151 : decode cX5_digest 151 = .ok (.goto (-23), 3) := by decide +kernel
theorem dX5_digest_154 : decode cX5_digest 154 = .ok (.lload_n 1, 1) := by decide +kernel
theorem dX5_digest_155 : decode cX5_digest 155 = .ok (.lreturn, 1) := by decide +kernel
theorem dX5_digestCell_0 : decode cX5_digestCell 0 = .ok (.lload_n 1, 1) := by decide +kernel
theorem dX5_digestCell_1 : decode cX5_digestCell 1 = .ok (.lstore 6, 2) := by decide +kernel
theorem dX5_digestCell_3 : decode cX5_digestCell 3 = .ok (.aload_n 0, 1) := by decide +kernel
theorem dX5_digestCell_4 : decode cX5_digestCell 4 = .ok (.getfield 20, 3) := by decide +kernel
theorem dX5_digestCell_7 : decode cX5_digestCell 7 = .ok (.iload_n 3, 1) := by decide +kernel
theorem dX5_digestCell_8 : decode cX5_digestCell 8 = .ok (.iload 4, 2) := by decide +kernel
theorem dX5_digestCell_10 : decode cX5_digestCell 10 = .ok (.iload 5, 2) := by decide +kernel
theorem dX5_digestCell_12 : decode cX5_digestCell 12 = .ok (.invokevirtual 71, 3) := by decide +kernel
theorem dX5_digestCell_15 : decode cX5_digestCell 15 = .ok (.istore 8, 2) := by decide +kernel
theorem dX5_digestCell_17 : decode cX5_digestCell 17 = .ok (.iconst 0, 1) := by decide +kernel
theorem dX5_digestCell_18 : decode cX5_digestCell 18 = .ok (.istore 9, 2) := by decide +kernel
theorem dX5_digestCell_20 : decode cX5_digestCell 20 = .ok (.iload 9, 2) := by decide +kernel
theorem dX5_digestCell_22 : decode cX5_digestCell 22 = .ok (.iconst 3, 1) := by decide +kernel
theorem dX5_digestCell_23 : decode cX5_digestCell 23 = .ok (.if_icmp .ge 47, 3) := by decide +kernel
theorem dX5_digestCell_26 : decode cX5_digestCell 26 = .ok (.iconst 0, 1) := by decide +kernel
theorem dX5_digestCell_27 : decode cX5_digestCell 27 = .ok (.istore 10, 2) := by decide +kernel
theorem dX5_digestCell_29 : decode cX5_digestCell 29 = .ok (.iload 10, 2) := by decide +kernel
theorem dX5_digestCell_31 : decode cX5_digestCell 31 = .ok (.iconst 4, 1) := by decide +kernel
theorem dX5_digestCell_32 : decode cX5_digestCell 32 = .ok (.if_icmp .ge 32, 3) := by decide +kernel
theorem dX5_digestCell_35 : decode cX5_digestCell 35 = .ok (.ldc2_w 209, 3) := by decide +kernel
theorem dX5_digestCell_38 : decode cX5_digestCell 38 = .ok (.lload 6, 2) := by decide +kernel
theorem dX5_digestCell_40 : decode cX5_digestCell 40 = .ok (.lmul, 1) := by decide +kernel
theorem dX5_digestCell_41 : decode cX5_digestCell 41 = .ok (.aload_n 0, 1) := by decide +kernel
theorem dX5_digestCell_42 : decode cX5_digestCell 42 = .ok (.getfield 20, 3) := by decide +kernel
theorem dX5_digestCell_45 : decode cX5_digestCell 45 = .ok (.iload 8, 2) := by decide +kernel
theorem dX5_digestCell_47 : decode cX5_digestCell 47 = .ok (.iload 9, 2) := by decide +kernel
theorem dX5_digestCell_49 : decode cX5_digestCell 49 = .ok (.iload 10, 2) := by decide +kernel
theorem dX5_digestCell_51 : decode cX5_digestCell 51 = .ok (.invokevirtual 95, 3) := by decide +kernel
theorem dX5_digestCell_54 : decode cX5_digestCell 54 = .ok (.i2l, 1) := by decide +kernel
theorem dX5_digestCell_55 : decode cX5_digestCell 55 = .ok (.ladd, 1) := by decide +kernel
theorem dX5_digestCell_56 : decode cX5_digestCell 56 = .ok (.lstore 6, 2) := by decide +kernel
theorem dX5_digestCell_58 : decode cX5_digestCell 58 = .ok (.iinc 10 1, 3) := by decide +kernel
theorem dX5_digestCell_61 : decode cX5_digestCell 61 = .ok (.goto (-32), 3) := by decide +kernel
theorem dX5_digestCell_64 : decode cX5_digestCell 64 = .ok (.iinc 9 1, 3) := by decide +kernel
theorem dX5_digestCell_67 : decode cX5_digestCell 67 = .ok (.goto (-47), 3) := by decide +kernel
theorem dX5_digestCell_70 : decode cX5_digestCell 70 = .ok (.aload_n 0, 1) := by decide +kernel
theorem dX5_digestCell_71 : decode cX5_digestCell 71 = .ok (.getfield 12, 3) := by decide +kernel
theorem dX5_digestCell_74 : decode cX5_digestCell 74 = .ok (.iload 8, 2) := by decide +kernel
theorem dX5_digestCell_76 : decode cX5_digestCell 76 = .ok (.invokevirtual 129, 3) := by decide +kernel
theorem dX5_digestCell_79 : decode cX5_digestCell 79 = .ok (.istore 9, 2) := by decide +kernel
theorem dX5_digestCell_81 : decode cX5_digestCell 81 = .ok (.ldc2_w 209, 3) := by decide +kernel
theorem dX5_digestCell_84 : decode cX5_digestCell 84 = .ok (.lload 6, 2) := by decide +kernel
theorem dX5_digestCell_86 : decode cX5_digestCell 86 = .ok (.lmul, 1) := by decide +kernel
theorem dX5_digestCell_87 : decode cX5_digestCell 87 = .ok (.iload 9, 2) := by decide +kernel
theorem dX5_digestCell_89 : decode cX5_digestCell 89 = .ok (.i2l, 1) := by decide +kernel
theorem dX5_digestCell_90 : decode cX5_digestCell 90 = .ok (.ladd, 1) := by decide +kernel
theorem dX5_digestCell_91 : decode cX5_digestCell 91 = .ok (.lstore 6, 2) := by decide +kernel
theorem dX5_digestCell_93 : decode cX5_digestCell 93 = .ok (.iload 9, 2) := by decide +kernel
theorem dX5_digestCell_95 : decode cX5_digestCell 95 = .ok (.ifCond .ne 21, 3) := by decide +kernel
theorem dX5_digestCell_98 : decode cX5_digestCell 98 = .ok (.ldc2_w 209, 3) := by decide +kernel
theorem dX5_digestCell_101 : decode cX5_digestCell 101 = .ok (.lload 6, 2) := by decide +kernel
theorem dX5_digestCell_103 : decode cX5_digestCell 103 = .ok (.lmul, 1) := by decide +kernel
theorem dX5_digestCell_104 : decode cX5_digestCell 104 = .ok (.aload_n 0, 1) := by decide +kernel
theorem dX5_digestCell_105 : decode cX5_digestCell 105 = .ok (.getfield 12, 3) := by decide +kernel
theorem dX5_digestCell_108 : decode cX5_digestCell 108 = .ok (.iload 8, 2) := by decide +kernel
theorem dX5_digestCell_110 : decode cX5_digestCell 110 = .ok (.invokevirtual 132, 3) := by decide +kernel
theorem dX5_digestCell_113 : decode cX5_digestCell 113 = .ok (.i2l, 1) := by decide +kernel
theorem dX5_digestCell_114 : decode cX5_digestCell 114 = .ok (.ladd, 1) := by decide +kernel
theorem dX5_digestCell_115 : decode cX5_digestCell 115 = .ok (.lreturn, 1) := by decide +kernel
theorem dX5_digestCell_116 : decode cX5_digestCell 116 = .ok (.iload 9, 2) := by decide +kernel
theorem dX5_digestCell_118 : decode cX5_digestCell 118 = .ok (.iconst 4, 1) := by decide +kernel
theorem dX5_digestCell_119 : decode cX5_digestCell 119 = .ok (.if_icmp .ne 41, 3) := by decide +kernel
theorem dX5_digestCell_122 : decode cX5_digestCell 122 = .ok (.ldc2_w 209, 3) := by decide +kernel
theorem dX5_digestCell_125 : decode cX5_digestCell 125 = .ok (.lload 6, 2) := by decide +kernel
theorem dX5_digestCell_127 : decode cX5_digestCell 127 = .ok (.lmul, 1) := by decide +kernel
theorem dX5_digestCell_128 : decode cX5_digestCell 128 = .ok (.aload_n 0, 1) := by decide +kernel
theorem dX5_digestCell_129 : decode cX5_digestCell 129 = .ok (.getfield 12, 3) := by decide +kernel
theorem dX5_digestCell_132 : decode cX5_digestCell 132 = .ok (.iload 8, 2) := by decide +kernel
theorem dX5_digestCell_134 : decode cX5_digestCell 134 = .ok (.invokevirtual 138, 3) := by decide +kernel
theorem dX5_digestCell_137 : decode cX5_digestCell 137 = .ok (.i2l, 1) := by decide +kernel
theorem dX5_digestCell_138 : decode cX5_digestCell 138 = .ok (.ladd, 1) := by decide +kernel
theorem dX5_digestCell_139 : decode cX5_digestCell 139 = .ok (.lstore 6, 2) := by decide +kernel
theorem dX5_digestCell_141 : decode cX5_digestCell 141 = .ok (.ldc2_w 209, 3) := by decide +kernel
theorem dX5_digestCell_144 : decode cX5_digestCell 144 = .ok (.lload 6, 2) := by decide +kernel
theorem dX5_digestCell_146 : decode cX5_digestCell 146 = .ok (.lmul, 1) := by decide +kernel
theorem dX5_digestCell_147 : decode cX5_digestCell 147 = .ok (.aload_n 0, 1) := by decide +kernel
theorem dX5_digestCell_148 : decode cX5_digestCell 148 = .ok (.getfield 12, 3) := by decide +kernel
theorem dX5_digestCell_151 : decode cX5_digestCell 151 = .ok (.iload 8, 2) := by decide +kernel
theorem dX5_digestCell_153 : decode cX5_digestCell 153 = .ok (.invokevirtual 141, 3) := by decide +kernel
theorem dX5_digestCell_156 : decode cX5_digestCell 156 = .ok (.i2l, 1) := by decide +kernel
theorem dX5_digestCell_157 : decode cX5_digestCell 157 = .ok (.ladd, 1) := by decide +kernel
theorem dX5_digestCell_158 : decode cX5_digestCell 158 = .ok (.lstore 6, 2) := by decide +kernel
theorem dX5_digestCell_160 : decode cX5_digestCell 160 = .ok (.ldc2_w 209, 3) := by decide +kernel
theorem dX5_digestCell_163 : decode cX5_digestCell 163 = .ok (.lload 6, 2) := by decide +kernel
theorem dX5_digestCell_165 : decode cX5_digestCell 165 = .ok (.lmul, 1) := by decide +kernel
theorem dX5_digestCell_166 : decode cX5_digestCell 166 = .ok (.aload_n 0, 1) := by decide +kernel
theorem dX5_digestCell_167 : decode cX5_digestCell 167 = .ok (.getfield 12, 3) := by decide +kernel
theorem dX5_digestCell_170 : decode cX5_digestCell 170 = .ok (.iload_n 3, 1) := by decide +kernel
theorem dX5_digestCell_171 : decode cX5_digestCell 171 = .ok (.iload 4, 2) := by decide +kernel
theorem dX5_digestCell_173 : decode cX5_digestCell 173 = .ok (.iload 5, 2) := by decide +kernel
theorem dX5_digestCell_175 : decode cX5_digestCell 175 = .ok (.invokevirtual 144, 3) := by decide +kernel
theorem dX5_digestCell_178 : decode cX5_digestCell 178 = .ok (.i2l, 1) := by decide +kernel
theorem dX5_digestCell_179 : decode cX5_digestCell 179 = .ok (.ladd, 1) := by decide +kernel
theorem dX5_digestCell_180 : decode cX5_digestCell 180 = .ok (.lreturn, 1) := by decide +kernel
theorem dX5_tally_0 : decode cX5_tally 0 = .ok (.iload_n 1, 1) := by decide +kernel
theorem dX5_tally_1 : decode cX5_tally 1 = .ok (.tableswitch 54 0 3 #[31, 36, 41, 46], 31) := by decide +kernel
theorem dX5_tally_32 : decode cX5_tally 32 = .ok (.aload_n 0, 1) := by decide +kernel
theorem dX5_tally_33 : decode cX5_tally 33 = .ok (.getfield 44, 3) := by decide +kernel
theorem dX5_tally_36 : decode cX5_tally 36 = .ok (.ireturn, 1) := by decide +kernel
theorem dX5_tally_37 : decode cX5_tally 37 = .ok (.aload_n 0, 1) := by decide +kernel
theorem dX5_tally_38 : decode cX5_tally 38 = .ok (.getfield 47, 3) := by decide +kernel
theorem dX5_tally_41 : decode cX5_tally 41 = .ok (.ireturn, 1) := by decide +kernel
theorem dX5_tally_42 : decode cX5_tally 42 = .ok (.aload_n 0, 1) := by decide +kernel
theorem dX5_tally_43 : decode cX5_tally 43 = .ok (.getfield 50, 3) := by decide +kernel
theorem dX5_tally_46 : decode cX5_tally 46 = .ok (.ireturn, 1) := by decide +kernel
theorem dX5_tally_47 : decode cX5_tally 47 = .ok (.aload_n 0, 1) := by decide +kernel
theorem dX5_tally_48 : decode cX5_tally 48 = .ok (.getfield 40, 3) := by decide +kernel
theorem dX5_tally_51 : decode cX5_tally 51 = .ok (.getfield 179, 3) := by decide +kernel
theorem dX5_tally_54 : decode cX5_tally 54 = .ok (.ireturn, 1) := by decide +kernel
theorem dX5_tally_55 : decode cX5_tally 55 = .ok (.aload_n 0, 1) := by decide +kernel
theorem dX5_tally_56 : decode cX5_tally 56 = .ok (.getfield 33, 3) := by decide +kernel
theorem dX5_tally_59 : decode cX5_tally 59 = .ok (.ireturn, 1) := by decide +kernel
theorem dX5_refuse_0 : decode cX5_refuse 0 = .ok (.iload_n 1, 1) := by decide +kernel
theorem dX5_refuse_1 : decode cX5_refuse 1 = .ok (.sipush (-10002), 3) := by decide +kernel
theorem dX5_refuse_4 : decode cX5_refuse 4 = .ok (.if_icmp .ne 16, 3) := by decide +kernel
theorem dX5_refuse_7 : decode cX5_refuse 7 = .ok (.aload_n 0, 1) := by decide +kernel
theorem dX5_refuse_8 : decode cX5_refuse 8 = .ok (.dup, 1) := by decide +kernel
theorem dX5_refuse_9 : decode cX5_refuse 9 = .ok (.getfield 44, 3) := by decide +kernel
theorem dX5_refuse_12 : decode cX5_refuse 12 = .ok (.iconst 1, 1) := by decide +kernel
theorem dX5_refuse_13 : decode cX5_refuse 13 = .ok (.iadd, 1) := by decide +kernel
theorem dX5_refuse_14 : decode cX5_refuse 14 = .ok (.putfield 44, 3) := by decide +kernel
theorem dX5_refuse_17 : decode cX5_refuse 17 = .ok (.goto 33, 3) := by decide +kernel
theorem dX5_refuse_20 : decode cX5_refuse 20 = .ok (.iload_n 1, 1) := by decide +kernel
theorem dX5_refuse_21 : decode cX5_refuse 21 = .ok (.sipush (-10003), 3) := by decide +kernel
theorem dX5_refuse_24 : decode cX5_refuse 24 = .ok (.if_icmp .ne 16, 3) := by decide +kernel
theorem dX5_refuse_27 : decode cX5_refuse 27 = .ok (.aload_n 0, 1) := by decide +kernel
theorem dX5_refuse_28 : decode cX5_refuse 28 = .ok (.dup, 1) := by decide +kernel
theorem dX5_refuse_29 : decode cX5_refuse 29 = .ok (.getfield 47, 3) := by decide +kernel
theorem dX5_refuse_32 : decode cX5_refuse 32 = .ok (.iconst 1, 1) := by decide +kernel
theorem dX5_refuse_33 : decode cX5_refuse 33 = .ok (.iadd, 1) := by decide +kernel
theorem dX5_refuse_34 : decode cX5_refuse 34 = .ok (.putfield 47, 3) := by decide +kernel
theorem dX5_refuse_37 : decode cX5_refuse 37 = .ok (.goto 13, 3) := by decide +kernel
theorem dX5_refuse_40 : decode cX5_refuse 40 = .ok (.aload_n 0, 1) := by decide +kernel
theorem dX5_refuse_41 : decode cX5_refuse 41 = .ok (.dup, 1) := by decide +kernel
theorem dX5_refuse_42 : decode cX5_refuse 42 = .ok (.getfield 50, 3) := by decide +kernel
theorem dX5_refuse_45 : decode cX5_refuse 45 = .ok (.iconst 1, 1) := by decide +kernel
theorem dX5_refuse_46 : decode cX5_refuse 46 = .ok (.iadd, 1) := by decide +kernel
theorem dX5_refuse_47 : decode cX5_refuse 47 = .ok (.putfield 50, 3) := by decide +kernel
theorem dX5_refuse_50 : decode cX5_refuse 50 = .ok (.iload_n 1, 1) := by decide +kernel
theorem dX5_refuse_51 : decode cX5_refuse 51 = .ok (.ireturn, 1) := by decide +kernel
theorem dX5_settle_0 : decode cX5_settle 0 = .ok (.iload_n 1, 1) := by decide +kernel
theorem dX5_settle_1 : decode cX5_settle 1 = .ok (.sipush (-10002), 3) := by decide +kernel
theorem dX5_settle_4 : decode cX5_settle 4 = .ok (.if_icmp .ne 11, 3) := by decide +kernel
theorem dX5_settle_7 : decode cX5_settle 7 = .ok (.aload_n 0, 1) := by decide +kernel
theorem dX5_settle_8 : decode cX5_settle 8 = .ok (.sipush (-10002), 3) := by decide +kernel
theorem dX5_settle_11 : decode cX5_settle 11 = .ok (.invokevirtual 92, 3) := by decide +kernel
theorem dX5_settle_14 : decode cX5_settle 14 = .ok (.ireturn, 1) := by decide +kernel
theorem dX5_settle_15 : decode cX5_settle 15 = .ok (.aload_n 0, 1) := by decide +kernel
theorem dX5_settle_16 : decode cX5_settle 16 = .ok (.invokevirtual 198, 3) := by decide +kernel
theorem dX5_settle_19 : decode cX5_settle 19 = .ok (.iload_n 1, 1) := by decide +kernel
theorem dX5_settle_20 : decode cX5_settle 20 = .ok (.ireturn, 1) := by decide +kernel
theorem dX5_keepBefore_0 : decode cX5_keepBefore 0 = .ok (.aload_n 0, 1) := by decide +kernel
theorem dX5_keepBefore_1 : decode cX5_keepBefore 1 = .ok (.getfield 33, 3) := by decide +kernel
theorem dX5_keepBefore_4 : decode cX5_keepBefore 4 = .ok (.iconst 5, 1) := by decide +kernel
theorem dX5_keepBefore_5 : decode cX5_keepBefore 5 = .ok (.if_icmp .lt 49, 3) := by decide +kernel
theorem dX5_keepBefore_8 : decode cX5_keepBefore 8 = .ok (.aload_n 0, 1) := by decide +kernel
theorem dX5_keepBefore_9 : decode cX5_keepBefore 9 = .ok (.getfield 29, 3) := by decide +kernel
theorem dX5_keepBefore_12 : decode cX5_keepBefore 12 = .ok (.iconst 0, 1) := by decide +kernel
theorem dX5_keepBefore_13 : decode cX5_keepBefore 13 = .ok (.aaload, 1) := by decide +kernel
theorem dX5_keepBefore_14 : decode cX5_keepBefore 14 = .ok (.astore_n 1, 1) := by decide +kernel
theorem dX5_keepBefore_15 : decode cX5_keepBefore 15 = .ok (.iconst 1, 1) := by decide +kernel
theorem dX5_keepBefore_16 : decode cX5_keepBefore 16 = .ok (.istore_n 2, 1) := by decide +kernel
theorem dX5_keepBefore_17 : decode cX5_keepBefore 17 = .ok (.iload_n 2, 1) := by decide +kernel
theorem dX5_keepBefore_18 : decode cX5_keepBefore 18 = .ok (.iconst 5, 1) := by decide +kernel
theorem dX5_keepBefore_19 : decode cX5_keepBefore 19 = .ok (.if_icmp .ge 23, 3) := by decide +kernel
theorem dX5_keepBefore_22 : decode cX5_keepBefore 22 = .ok (.aload_n 0, 1) := by decide +kernel
theorem dX5_keepBefore_23 : decode cX5_keepBefore 23 = .ok (.getfield 29, 3) := by decide +kernel
theorem dX5_keepBefore_26 : decode cX5_keepBefore 26 = .ok (.iload_n 2, 1) := by decide +kernel
theorem dX5_keepBefore_27 : decode cX5_keepBefore 27 = .ok (.iconst 1, 1) := by decide +kernel
theorem dX5_keepBefore_28 : decode cX5_keepBefore 28 = .ok (.isub, 1) := by decide +kernel
theorem dX5_keepBefore_29 : decode cX5_keepBefore 29 = .ok (.aload_n 0, 1) := by decide +kernel
theorem dX5_keepBefore_30 : decode cX5_keepBefore 30 = .ok (.getfield 29, 3) := by decide +kernel
theorem dX5_keepBefore_33 : decode cX5_keepBefore 33 = .ok (.iload_n 2, 1) := by decide +kernel
theorem dX5_keepBefore_34 : decode cX5_keepBefore 34 = .ok (.aaload, 1) := by decide +kernel
theorem dX5_keepBefore_35 : decode cX5_keepBefore 35 = .ok (.aastore, 1) := by decide +kernel
theorem dX5_keepBefore_36 : decode cX5_keepBefore 36 = .ok (.iinc 2 1, 3) := by decide +kernel
theorem dX5_keepBefore_39 : decode cX5_keepBefore 39 = .ok (.goto (-22), 3) := by decide +kernel
theorem dX5_keepBefore_42 : decode cX5_keepBefore 42 = .ok (.aload_n 0, 1) := by decide +kernel
theorem dX5_keepBefore_43 : decode cX5_keepBefore 43 = .ok (.getfield 29, 3) := by decide +kernel
theorem dX5_keepBefore_46 : decode cX5_keepBefore 46 = .ok (.iconst 4, 1) := by decide +kernel
theorem dX5_keepBefore_47 : decode cX5_keepBefore 47 = .ok (.aload_n 1, 1) := by decide +kernel
theorem dX5_keepBefore_48 : decode cX5_keepBefore 48 = .ok (.aastore, 1) := by decide +kernel
theorem dX5_keepBefore_49 : decode cX5_keepBefore 49 = .ok (.aload_n 0, 1) := by decide +kernel
theorem dX5_keepBefore_50 : decode cX5_keepBefore 50 = .ok (.iconst 4, 1) := by decide +kernel
theorem dX5_keepBefore_51 : decode cX5_keepBefore 51 = .ok (.putfield 33, 3) := by decide +kernel
theorem dX5_keepBefore_54 : decode cX5_keepBefore 54 = .ok (.aload_n 0, 1) := by decide +kernel
theorem dX5_keepBefore_55 : decode cX5_keepBefore 55 = .ok (.getfield 29, 3) := by decide +kernel
theorem dX5_keepBefore_58 : decode cX5_keepBefore 58 = .ok (.aload_n 0, 1) := by decide +kernel
theorem dX5_keepBefore_59 : decode cX5_keepBefore 59 = .ok (.getfield 33, 3) := by decide +kernel
theorem dX5_keepBefore_62 : decode cX5_keepBefore 62 = .ok (.aaload, 1) := by decide +kernel
theorem dX5_keepBefore_63 : decode cX5_keepBefore 63 = .ok (.aload_n 0, 1) := by decide +kernel
theorem dX5_keepBefore_64 : decode cX5_keepBefore 64 = .ok (.getfield 26, 3) := by decide +kernel
theorem dX5_keepBefore_67 : decode cX5_keepBefore 67 = .ok (.invokevirtual 53, 3) := by decide +kernel
theorem dX5_keepBefore_70 : decode cX5_keepBefore 70 = .ok (.aload_n 0, 1) := by decide +kernel
theorem dX5_keepBefore_71 : decode cX5_keepBefore 71 = .ok (.dup, 1) := by decide +kernel
theorem dX5_keepBefore_72 : decode cX5_keepBefore 72 = .ok (.getfield 33, 3) := by decide +kernel
theorem dX5_keepBefore_75 : decode cX5_keepBefore 75 = .ok (.iconst 1, 1) := by decide +kernel
theorem dX5_keepBefore_76 : decode cX5_keepBefore 76 = .ok (.iadd, 1) := by decide +kernel
theorem dX5_keepBefore_77 : decode cX5_keepBefore 77 = .ok (.putfield 33, 3) := by decide +kernel
theorem dX5_keepBefore_80 : decode cX5_keepBefore 80 = .ok (.aload_n 0, 1) := by decide +kernel
theorem dX5_keepBefore_81 : decode cX5_keepBefore 81 = .ok (.getfield 12, 3) := by decide +kernel
theorem dX5_keepBefore_84 : decode cX5_keepBefore 84 = .ok (.invokevirtual 201, 3) := by decide +kernel
theorem dX5_keepBefore_87 : decode cX5_keepBefore 87 = .ok (.return_, 1) := by decide +kernel
theorem dX5_perform_0 : decode cX5_perform 0 = .ok (.aload_n 0, 1) := by decide +kernel
theorem dX5_perform_1 : decode cX5_perform 1 = .ok (.getfield 40, 3) := by decide +kernel
theorem dX5_perform_4 : decode cX5_perform 4 = .ok (.iload_n 1, 1) := by decide +kernel
theorem dX5_perform_5 : decode cX5_perform 5 = .ok (.iconst 1, 1) := by decide +kernel
theorem dX5_perform_6 : decode cX5_perform 6 = .ok (.iadd, 1) := by decide +kernel
theorem dX5_perform_7 : decode cX5_perform 7 = .ok (.invokevirtual 192, 3) := by decide +kernel
theorem dX5_perform_10 : decode cX5_perform 10 = .ok (.istore_n 2, 1) := by decide +kernel
theorem dX5_perform_11 : decode cX5_perform 11 = .ok (.aload_n 0, 1) := by decide +kernel
theorem dX5_perform_12 : decode cX5_perform 12 = .ok (.getfield 40, 3) := by decide +kernel
theorem dX5_perform_15 : decode cX5_perform 15 = .ok (.iload_n 1, 1) := by decide +kernel
theorem dX5_perform_16 : decode cX5_perform 16 = .ok (.iconst 2, 1) := by decide +kernel
theorem dX5_perform_17 : decode cX5_perform 17 = .ok (.iadd, 1) := by decide +kernel
theorem dX5_perform_18 : decode cX5_perform 18 = .ok (.invokevirtual 192, 3) := by decide +kernel
theorem dX5_perform_21 : decode cX5_perform 21 = .ok (.istore_n 3, 1) := by decide +kernel
theorem dX5_perform_22 : decode cX5_perform 22 = .ok (.aload_n 0, 1) := by decide +kernel
theorem dX5_perform_23 : decode cX5_perform 23 = .ok (.getfield 40, 3) := by decide +kernel
theorem dX5_perform_26 : decode cX5_perform 26 = .ok (.iload_n 1, 1) := by decide +kernel
theorem dX5_perform_27 : decode cX5_perform 27 = .ok (.iconst 3, 1) := by decide +kernel
theorem dX5_perform_28 : decode cX5_perform 28 = .ok (.iadd, 1) := by decide +kernel
theorem dX5_perform_29 : decode cX5_perform 29 = .ok (.invokevirtual 192, 3) := by decide +kernel
theorem dX5_perform_32 : decode cX5_perform 32 = .ok (.istore 4, 2) := by decide +kernel
theorem dX5_perform_34 : decode cX5_perform 34 = .ok (.aload_n 0, 1) := by decide +kernel
theorem dX5_perform_35 : decode cX5_perform 35 = .ok (.getfield 40, 3) := by decide +kernel
theorem dX5_perform_38 : decode cX5_perform 38 = .ok (.iload_n 1, 1) := by decide +kernel
theorem dX5_perform_39 : decode cX5_perform 39 = .ok (.invokevirtual 192, 3) := by decide +kernel
theorem dX5_perform_42 : decode cX5_perform 42 = .ok (.tableswitch 211 99 118 #[192, 211, 124, 211, 94, 211, 211, 211, 211, 163, 211, 211, 211, 211, 211, 211, 114, 211, 211, 104], 94) := by decide +kernel
theorem dX5_perform_136 : decode cX5_perform 136 = .ok (.aload_n 0, 1) := by decide +kernel
theorem dX5_perform_137 : decode cX5_perform 137 = .ok (.getfield 20, 3) := by decide +kernel
theorem dX5_perform_140 : decode cX5_perform 140 = .ok (.iload_n 2, 1) := by decide +kernel
theorem dX5_perform_141 : decode cX5_perform 141 = .ok (.iload_n 3, 1) := by decide +kernel
theorem dX5_perform_142 : decode cX5_perform 142 = .ok (.invokevirtual 57, 3) := by decide +kernel
theorem dX5_perform_145 : decode cX5_perform 145 = .ok (.ireturn, 1) := by decide +kernel
theorem dX5_perform_146 : decode cX5_perform 146 = .ok (.aload_n 0, 1) := by decide +kernel
theorem dX5_perform_147 : decode cX5_perform 147 = .ok (.getfield 20, 3) := by decide +kernel
theorem dX5_perform_150 : decode cX5_perform 150 = .ok (.iload_n 2, 1) := by decide +kernel
theorem dX5_perform_151 : decode cX5_perform 151 = .ok (.iload_n 3, 1) := by decide +kernel
theorem dX5_perform_152 : decode cX5_perform 152 = .ok (.invokevirtual 65, 3) := by decide +kernel
theorem dX5_perform_155 : decode cX5_perform 155 = .ok (.ireturn, 1) := by decide +kernel
theorem dX5_perform_156 : decode cX5_perform 156 = .ok (.aload_n 0, 1) := by decide +kernel
theorem dX5_perform_157 : decode cX5_perform 157 = .ok (.getfield 20, 3) := by decide +kernel
theorem dX5_perform_160 : decode cX5_perform 160 = .ok (.iload_n 2, 1) := by decide +kernel
theorem dX5_perform_161 : decode cX5_perform 161 = .ok (.iload_n 3, 1) := by decide +kernel
theorem dX5_perform_162 : decode cX5_perform 162 = .ok (.invokevirtual 68, 3) := by decide +kernel
theorem dX5_perform_165 : decode cX5_perform 165 = .ok (.ireturn, 1) := by decide +kernel
theorem dX5_perform_166 : decode cX5_perform 166 = .ok (.aload_n 0, 1) := by decide +kernel
theorem dX5_perform_167 : decode cX5_perform 167 = .ok (.getfield 20, 3) := by decide +kernel
theorem dX5_perform_170 : decode cX5_perform 170 = .ok (.aload_n 0, 1) := by decide +kernel
theorem dX5_perform_171 : decode cX5_perform 171 = .ok (.getfield 20, 3) := by decide +kernel
theorem dX5_perform_174 : decode cX5_perform 174 = .ok (.iload_n 2, 1) := by decide +kernel
theorem dX5_perform_175 : decode cX5_perform 175 = .ok (.iload_n 3, 1) := by decide +kernel
theorem dX5_perform_176 : decode cX5_perform 176 = .ok (.iload 4, 2) := by decide +kernel
theorem dX5_perform_178 : decode cX5_perform 178 = .ok (.invokevirtual 71, 3) := by decide +kernel
theorem dX5_perform_181 : decode cX5_perform 181 = .ok (.aload_n 0, 1) := by decide +kernel
theorem dX5_perform_182 : decode cX5_perform 182 = .ok (.getfield 40, 3) := by decide +kernel
theorem dX5_perform_185 : decode cX5_perform 185 = .ok (.iload_n 1, 1) := by decide +kernel
theorem dX5_perform_186 : decode cX5_perform 186 = .ok (.iconst 4, 1) := by decide +kernel
theorem dX5_perform_187 : decode cX5_perform 187 = .ok (.iadd, 1) := by decide +kernel
theorem dX5_perform_188 : decode cX5_perform 188 = .ok (.invokevirtual 192, 3) := by decide +kernel
theorem dX5_perform_191 : decode cX5_perform 191 = .ok (.aload_n 0, 1) := by decide +kernel
theorem dX5_perform_192 : decode cX5_perform 192 = .ok (.getfield 40, 3) := by decide +kernel
theorem dX5_perform_195 : decode cX5_perform 195 = .ok (.iload_n 1, 1) := by decide +kernel
theorem dX5_perform_196 : decode cX5_perform 196 = .ok (.iconst 5, 1) := by decide +kernel
theorem dX5_perform_197 : decode cX5_perform 197 = .ok (.iadd, 1) := by decide +kernel
theorem dX5_perform_198 : decode cX5_perform 198 = .ok (.invokevirtual 192, 3) := by decide +kernel
theorem dX5_perform_201 : decode cX5_perform 201 = .ok (.invokevirtual 79, 3) := by decide +kernel
theorem dX5_perform_204 : decode cX5_perform 204 = .ok (.ireturn, 1) := by decide +kernel
theorem dX5_perform_205 : decode cX5_perform 205 = .ok (.aload_n 0, 1) := by decide +kernel
theorem dX5_perform_206 : decode cX5_perform 206 = .ok (.getfield 20, 3) := by decide +kernel
theorem dX5_perform_209 : decode cX5_perform 209 = .ok (.aload_n 0, 1) := by decide +kernel
theorem dX5_perform_210 : decode cX5_perform 210 = .ok (.getfield 20, 3) := by decide +kernel
theorem dX5_perform_213 : decode cX5_perform 213 = .ok (.iload_n 2, 1) := by decide +kernel
theorem dX5_perform_214 : decode cX5_perform 214 = .ok (.iload_n 3, 1) := by decide +kernel
theorem dX5_perform_215 : decode cX5_perform 215 = .ok (.iload 4, 2) := by decide +kernel
theorem dX5_perform_217 : decode cX5_perform 217 = .ok (.invokevirtual 71, 3) := by decide +kernel
theorem dX5_perform_220 : decode cX5_perform 220 = .ok (.aload_n 0, 1) := by decide +kernel
theorem dX5_perform_221 : decode cX5_perform 221 = .ok (.getfield 40, 3) := by decide +kernel
theorem dX5_perform_224 : decode cX5_perform 224 = .ok (.iload_n 1, 1) := by decide +kernel
theorem dX5_perform_225 : decode cX5_perform 225 = .ok (.iconst 4, 1) := by decide +kernel
theorem dX5_perform_226 : decode cX5_perform 226 = .ok (.iadd, 1) := by decide +kernel
theorem dX5_perform_227 : decode cX5_perform 227 = .ok (.invokevirtual 192, 3) := by decide +kernel
theorem dX5_perform_230 : decode cX5_perform 230 = .ok (.invokevirtual 82, 3) := by decide +kernel
theorem dX5_perform_233 : decode cX5_perform 233 = .ok (.ireturn, 1) := by decide +kernel
theorem dX5_perform_234 : decode cX5_perform 234 = .ok (.aload_n 0, 1) := by decide +kernel
theorem dX5_perform_235 : decode cX5_perform 235 = .ok (.getfield 20, 3) := by decide +kernel
theorem dX5_perform_238 : decode cX5_perform 238 = .ok (.aload_n 0, 1) := by decide +kernel
theorem dX5_perform_239 : decode cX5_perform 239 = .ok (.getfield 20, 3) := by decide +kernel
theorem dX5_perform_242 : decode cX5_perform 242 = .ok (.iload_n 2, 1) := by decide +kernel
theorem dX5_perform_243 : decode cX5_perform 243 = .ok (.iload_n 3, 1) := by decide +kernel
theorem dX5_perform_244 : decode cX5_perform 244 = .ok (.iload 4, 2) := by decide +kernel
theorem dX5_perform_246 : decode cX5_perform 246 = .ok (.invokevirtual 71, 3) := by decide +kernel
theorem dX5_perform_249 : decode cX5_perform 249 = .ok (.invokevirtual 85, 3) := by decide +kernel
theorem dX5_perform_252 : decode cX5_perform 252 = .ok (.ireturn, 1) := by decide +kernel
theorem dX5_perform_253 : decode cX5_perform 253 = .ok (.sipush (-10002), 3) := by decide +kernel
theorem dX5_perform_256 : decode cX5_perform 256 = .ok (.ireturn, 1) := by decide +kernel
theorem dX5_within_0 : decode cX5_within 0 = .ok (.iload_n 0, 1) := by decide +kernel
theorem dX5_within_1 : decode cX5_within 1 = .ok (.iload_n 1, 1) := by decide +kernel
theorem dX5_within_2 : decode cX5_within 2 = .ok (.if_icmp .lt 12, 3) := by decide +kernel
theorem dX5_within_5 : decode cX5_within 5 = .ok (.iload_n 0, 1) := by decide +kernel
theorem dX5_within_6 : decode cX5_within 6 = .ok (.iload_n 2, 1) := by decide +kernel
theorem dX5_within_7 : decode cX5_within 7 = .ok (.if_icmp .gt 7, 3) := by decide +kernel
theorem dX5_within_10 : decode cX5_within 10 = .ok (.iconst 1, 1) := by decide +kernel
theorem dX5_within_11 : decode cX5_within 11 = .ok (.goto 4, 3) := by decide +kernel
theorem dX5_within_14 : decode cX5_within 14 = .ok (.iconst 0, 1) := by decide +kernel
theorem dX5_within_15 : decode cX5_within 15 = .ok (.ireturn, 1) := by decide +kernel
