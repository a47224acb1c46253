theorem dX4_init_0 : decode cX4_init 0 = .ok (.aload_n 0, 1) := by decide +kernel
theorem dX4_init_1 : decode cX4_init 1 = .ok (.invokespecial 3, 3) := by decide +kernel
theorem dX4_init_4 : decode cX4_init 4 = .ok (.aload_n 0, 1) := by decide +kernel
theorem dX4_init_5 : decode cX4_init 5 = .ok (.iconst 3, 1) := by decide +kernel
theorem dX4_init_6 : decode cX4_init 6 = .ok (.putfield 9, 3) := by decide +kernel
theorem dX4_init_9 : decode cX4_init 9 = .ok (.aload_n 0, 1) := by decide +kernel
theorem dX4_init_10 : decode cX4_init 10 = .ok (.iconst 3, 1) := by decide +kernel
theorem dX4_init_11 : decode cX4_init 11 = .ok (.putfield 15, 3) := by decide +kernel
theorem dX4_init_14 : decode cX4_init 14 = .ok (.aload_n 0, 1) := by decide +kernel
theorem dX4_init_15 : decode cX4_init 15 = .ok (.iconst 3, 1) := by decide +kernel
theorem dX4_init_16 : decode cX4_init 16 = .ok (.newarray .int, 2) := by decide +kernel
theorem dX4_init_18 : decode cX4_init 18 = .ok (.putfield 18, 3) := by decide +kernel
theorem dX4_init_21 : decode cX4_init 21 = .ok (.aload_n 0, 1) := by decide +kernel
theorem dX4_init_22 : decode cX4_init 22 = .ok (.bipush 6, 2) := by decide +kernel
theorem dX4_init_24 : decode cX4_init 24 = .ok (.newarray .int, 2) := by decide +kernel
theorem dX4_init_26 : decode cX4_init 26 = .ok (.putfield 22, 3) := by decide +kernel
theorem dX4_init_29 : decode cX4_init 29 = .ok (.aload_n 0, 1) := by decide +kernel
theorem dX4_init_30 : decode cX4_init 30 = .ok (.sipush 384, 3) := by decide +kernel
theorem dX4_init_33 : decode cX4_init 33 = .ok (.newarray .int, 2) := by decide +kernel
theorem dX4_init_35 : decode cX4_init 35 = .ok (.putfield 25, 3) := by decide +kernel
theorem dX4_init_38 : decode cX4_init 38 = .ok (.getstatic 28, 3) := by decide +kernel
theorem dX4_init_41 : decode cX4_init 41 = .ok (.iconst 0, 1) := by decide +kernel
theorem dX4_init_42 : decode cX4_init 42 = .ok (.aload_n 0, 1) := by decide +kernel
theorem dX4_init_43 : decode cX4_init 43 = .ok (.getfield 18, 3) := by decide +kernel
theorem dX4_init_46 : decode cX4_init 46 = .ok (.iconst 0, 1) := by decide +kernel
theorem dX4_init_47 : decode cX4_init 47 = .ok (.iconst 3, 1) := by decide +kernel
theorem dX4_init_48 : decode cX4_init 48 = .ok (.invokestatic 31, 3) := by decide +kernel
theorem dX4_init_51 : decode cX4_init 51 = .ok (.getstatic 37, 3) := by decide +kernel
theorem dX4_init_54 : decode cX4_init 54 = .ok (.iconst 0, 1) := by decide +kernel
theorem dX4_init_55 : decode cX4_init 55 = .ok (.aload_n 0, 1) := by decide +kernel
theorem dX4_init_56 : decode cX4_init 56 = .ok (.getfield 22, 3) := by decide +kernel
theorem dX4_init_59 : decode cX4_init 59 = .ok (.iconst 0, 1) := by decide +kernel
theorem dX4_init_60 : decode cX4_init 60 = .ok (.bipush 6, 2) := by decide +kernel
theorem dX4_init_62 : decode cX4_init 62 = .ok (.invokestatic 31, 3) := by decide +kernel
theorem dX4_init_65 : decode cX4_init 65 = .ok (.return_, 1) := by decide +kernel
theorem dX4_copyFrom_0 : decode cX4_copyFrom 0 = .ok (.aload_n 0, 1) := by decide +kernel
theorem dX4_copyFrom_1 : decode cX4_copyFrom 1 = .ok (.aload_n 1, 1) := by decide +kernel
theorem dX4_copyFrom_2 : decode cX4_copyFrom 2 = .ok (.getfield 9, 3) := by decide +kernel
theorem dX4_copyFrom_5 : decode cX4_copyFrom 5 = .ok (.putfield 9, 3) := by decide +kernel
theorem dX4_copyFrom_8 : decode cX4_copyFrom 8 = .ok (.aload_n 0, 1) := by decide +kernel
theorem dX4_copyFrom_9 : decode cX4_copyFrom 9 = .ok (.aload_n 1, 1) := by decide +kernel
theorem dX4_copyFrom_10 : decode cX4_copyFrom 10 = .ok (.getfield 15, 3) := by decide +kernel
theorem dX4_copyFrom_13 : decode cX4_copyFrom 13 = .ok (.putfield 15, 3) := by decide +kernel
theorem dX4_copyFrom_16 : decode cX4_copyFrom 16 = .ok (.aload_n 1, 1) := by decide +kernel
theorem dX4_copyFrom_17 : decode cX4_copyFrom 17 = .ok (.getfield 18, 3) := by decide +kernel
theorem dX4_copyFrom_20 : decode cX4_copyFrom 20 = .ok (.iconst 0, 1) := by decide +kernel
theorem dX4_copyFrom_21 : decode cX4_copyFrom 21 = .ok (.aload_n 0, 1) := by decide +kernel
theorem dX4_copyFrom_22 : decode cX4_copyFrom 22 = .ok (.getfield 18, 3) := by decide +kernel
theorem dX4_copyFrom_25 : decode cX4_copyFrom 25 = .ok (.iconst 0, 1) := by decide +kernel
theorem dX4_copyFrom_26 : decode cX4_copyFrom 26 = .ok (.iconst 3, 1) := by decide +kernel
theorem dX4_copyFrom_27 : decode cX4_copyFrom 27 = .ok (.invokestatic 31, 3) := by decide +kernel
theorem dX4_copyFrom_30 : decode cX4_copyFrom 30 = .ok (.aload_n 1, 1) := by decide +kernel
theorem dX4_copyFrom_31 : decode cX4_copyFrom 31 = .ok (.getfield 22, 3) := by decide +kernel
theorem dX4_copyFrom_34 : decode cX4_copyFrom 34 = .ok (.iconst 0, 1) := by decide +kernel
theorem dX4_copyFrom_35 : decode cX4_copyFrom 35 = .ok (.aload_n 0, 1) := by decide +kernel
theorem dX4_copyFrom_36 : decode cX4_copyFrom 36 = .ok (.getfield 22, 3) := by decide +kernel
theorem dX4_copyFrom_39 : decode cX4_copyFrom 39 = .ok (.iconst 0, 1) := by decide +kernel
theorem dX4_copyFrom_40 : decode cX4_copyFrom 40 = .ok (.bipush 6, 2) := by decide +kernel
theorem dX4_copyFrom_42 : decode cX4_copyFrom 42 = .ok (.invokestatic 31, 3) := by decide +kernel
theorem dX4_copyFrom_45 : decode cX4_copyFrom 45 = .ok (.aload_n 1, 1) := by decide +kernel
theorem dX4_copyFrom_46 : decode cX4_copyFrom 46 = .ok (.getfield 25, 3) := by decide +kernel
theorem dX4_copyFrom_49 : decode cX4_copyFrom 49 = .ok (.iconst 0, 1) := by decide +kernel
theorem dX4_copyFrom_50 : decode cX4_copyFrom 50 = .ok (.aload_n 0, 1) := by decide +kernel
theorem dX4_copyFrom_51 : decode cX4_copyFrom 51 = .ok (.getfield 25, 3) := by decide +kernel
theorem dX4_copyFrom_54 : decode cX4_copyFrom 54 = .ok (.iconst 0, 1) := by decide +kernel
theorem dX4_copyFrom_55 : decode cX4_copyFrom 55 = .ok (.sipush 384, 3) := by decide +kernel
theorem dX4_copyFrom_58 : decode cX4_copyFrom 58 = .ok (.invokestatic 31, 3) := by decide +kernel
theorem dX4_copyFrom_61 : decode cX4_copyFrom 61 = .ok (.return_, 1) := by decide +kernel
theorem dX4_place_0 : decode cX4_place 0 = .ok (.iload_n 1, 1) := by decide +kernel
theorem dX4_place_1 : decode cX4_place 1 = .ok (.iconst 0, 1) := by decide +kernel
theorem dX4_place_2 : decode cX4_place 2 = .ok (.iconst 1, 1) := by decide +kernel
theorem dX4_place_3 : decode cX4_place 3 = .ok (.invokestatic 40, 3) := by decide +kernel
theorem dX4_place_6 : decode cX4_place 6 = .ok (.ifCond .eq 35, 3) := by decide +kernel
theorem dX4_place_9 : decode cX4_place 9 = .ok (.iload_n 2, 1) := by decide +kernel
theorem dX4_place_10 : decode cX4_place 10 = .ok (.iconst 0, 1) := by decide +kernel
theorem dX4_place_11 : decode cX4_place 11 = .ok (.aload_n 0, 1) := by decide +kernel
theorem dX4_place_12 : decode cX4_place 12 = .ok (.getfield 9, 3) := by decide +kernel
theorem dX4_place_15 : decode cX4_place 15 = .ok (.iconst 1, 1) := by decide +kernel
theorem dX4_place_16 : decode cX4_place 16 = .ok (.isub, 1) := by decide +kernel
theorem dX4_place_17 : decode cX4_place 17 = .ok (.invokestatic 40, 3) := by decide +kernel
theorem dX4_place_20 : decode cX4_place 20 = .ok (.ifCond .eq 21, 3) := by decide +kernel
theorem dX4_place_23 : decode cX4_place 23 = .ok (.iload_n 3, 1) := by decide +kernel
theorem dX4_place_24 : decode cX4_place 24 = .ok (.iconst 0, 1) := by decide +kernel
theorem dX4_place_25 : decode cX4_place 25 = .ok (.aload_n 0, 1) := by decide +kernel
theorem dX4_place_26 : decode cX4_place 26 = .ok (.getfield 15, 3) := by decide +kernel
theorem dX4_place_29 : decode cX4_place 29 = .ok (.iconst 1, 1) := by decide +kernel
theorem dX4_place_30 : decode cX4_place 30 = .ok (.isub, 1) := by decide +kernel
theorem dX4_place_31 : decode cX4_place 31 = .ok (.invokestatic 40, 3) := by decide +kernel
theorem dX4_place_34 : decode cX4_place 34 = .ok (.ifCond .eq 7, 3) := by decide +kernel
theorem dX4_place_37 : decode cX4_place 37 = .ok (.iconst 1, 1) := by decide +kernel
theorem dX4_place_38 : decode cX4_place 38 = .ok (.goto 4, 3) := by decide +kernel
theorem dX4_place_41 : decode cX4_place 41 = .ok (.iconst 0, 1) := by decide +kernel
theorem dX4_place_42 : decode cX4_place 42 = .ok (.istore 4, 2) := by decide +kernel
theorem dX4_place_44 : decode cX4_place 44 = .ok (.iload 4, 2) := by decide +kernel
theorem dX4_place_46 : decode cX4_place 46 = .ok (.ifCond .eq 15, 3) := by decide +kernel
theorem dX4_place_49 : decode cX4_place 49 = .ok (.iload_n 1, 1) := by decide +kernel
theorem dX4_place_50 : decode cX4_place 50 = .ok (.iconst 4, 1) := by decide +kernel
theorem dX4_place_51 : decode cX4_place 51 = .ok (.imul, 1) := by decide +kernel
theorem dX4_place_52 : decode cX4_place 52 = .ok (.iload_n 3, 1) := by decide +kernel
theorem dX4_place_53 : decode cX4_place 53 = .ok (.iadd, 1) := by decide +kernel
theorem dX4_place_54 : decode cX4_place 54 = .ok (.iconst 4, 1) := by decide +kernel
theorem dX4_place_55 : decode cX4_place 55 = .ok (.imul, 1) := by decide +kernel
theorem dX4_place_56 : decode cX4_place 56 = .ok (.iload_n 2, 1) := by decide +kernel
theorem dX4_place_57 : decode cX4_place 57 = .ok (.iadd, 1) := by decide +kernel
theorem dX4_place_58 : decode cX4_place 58 = .ok (.goto 4, 3) := by decide +kernel
theorem dX4_place_61 : decode cX4_place 61 = .ok (.iconst (-1), 1) := by decide +kernel
theorem dX4_place_62 : decode cX4_place 62 = .ok (.ireturn, 1) := by decide +kernel
theorem dX4_setting_0 : decode cX4_setting 0 = .ok (.iload_n 1, 1) := by decide +kernel
theorem dX4_setting_1 : decode cX4_setting 1 = .ok (.ifCond .ne 8, 3) := by decide +kernel
theorem dX4_setting_4 : decode cX4_setting 4 = .ok (.aload_n 0, 1) := by decide +kernel
theorem dX4_setting_5 : decode cX4_setting 5 = .ok (.getfield 9, 3) := by decide +kernel
theorem dX4_setting_8 : decode cX4_setting 8 = .ok (.ireturn, 1) := by decide +kernel
theorem dX4_setting_9 : decode cX4_setting 9 = .ok (.iload_n 1, 1) := by decide +kernel
theorem dX4_setting_10 : decode cX4_setting 10 = .ok (.iconst 1, 1) := by decide +kernel
theorem dX4_setting_11 : decode cX4_setting 11 = .ok (.if_icmp .ne 8, 3) := by decide +kernel
theorem dX4_setting_14 : decode cX4_setting 14 = .ok (.aload_n 0, 1) := by decide +kernel
theorem dX4_setting_15 : decode cX4_setting 15 = .ok (.getfield 15, 3) := by decide +kernel
theorem dX4_setting_18 : decode cX4_setting 18 = .ok (.ireturn, 1) := by decide +kernel
theorem dX4_setting_19 : decode cX4_setting 19 = .ok (.iload_n 1, 1) := by decide +kernel
theorem dX4_setting_20 : decode cX4_setting 20 = .ok (.iconst 2, 1) := by decide +kernel
theorem dX4_setting_21 : decode cX4_setting 21 = .ok (.isub, 1) := by decide +kernel
theorem dX4_setting_22 : decode cX4_setting 22 = .ok (.istore_n 2, 1) := by decide +kernel
theorem dX4_setting_23 : decode cX4_setting 23 = .ok (.iload_n 2, 1) := by decide +kernel
theorem dX4_setting_24 : decode cX4_setting 24 = .ok (.iconst 0, 1) := by decide +kernel
theorem dX4_setting_25 : decode cX4_setting 25 = .ok (.iconst 2, 1) := by decide +kernel
theorem dX4_setting_26 : decode cX4_setting 26 = .ok (.invokestatic 40, 3) := by decide +kernel
theorem dX4_setting_29 : decode cX4_setting 29 = .ok (.ifCond .eq 10, 3) := by decide +kernel
theorem dX4_setting_32 : decode cX4_setting 32 = .ok (.aload_n 0, 1) := by decide +kernel
theorem dX4_setting_33 : decode cX4_setting 33 = .ok (.getfield 18, 3) := by decide +kernel
theorem dX4_setting_36 : decode cX4_setting 36 = .ok (.iload_n 2, 1) := by decide +kernel
theorem dX4_setting_37 : decode cX4_setting 37 = .ok (.iaload, 1) := by decide +kernel
theorem dX4_setting_38 : decode cX4_setting 38 = .ok (.ireturn, 1) := by decide +kernel
theorem dX4_setting_39 : decode cX4_setting 39 = .ok (.iload_n 2, 1) := by decide +kernel
theorem dX4_setting_40 : decode cX4_setting 40 = .ok (.iconst 3, 1) := by decide +kernel
theorem dX4_setting_41 : decode cX4_setting 41 = .ok (.isub, 1) := by decide +kernel
theorem dX4_setting_42 : decode cX4_setting 42 = .ok (.iconst 0, 1) := by decide +kernel
theorem dX4_setting_43 : decode cX4_setting 43 = .ok (.iconst 5, 1) := by decide +kernel
theorem dX4_setting_44 : decode cX4_setting 44 = .ok (.invokestatic 40, 3) := by decide +kernel
theorem dX4_setting_47 : decode cX4_setting 47 = .ok (.ifCond .eq 14, 3) := by decide +kernel
theorem dX4_setting_50 : decode cX4_setting 50 = .ok (.aload_n 0, 1) := by decide +kernel
theorem dX4_setting_51 : decode cX4_setting 51 = .ok (.getfield 22, 3) := by decide +kernel
theorem dX4_setting_54 : decode cX4_setting 54 = .ok (.iload_n 2, 1) := by decide +kernel
theorem dX4_setting_55 : decode cX4_setting 55 = .ok (.iconst 3, 1) := by decide +kernel
theorem dX4_setting_56 : decode cX4_setting 56 = .ok (.isub, 1) := by decide +kernel
theorem dX4_setting_57 : decode cX4_setting 57 = .ok (.iaload, 1) := by decide +kernel
theorem dX4_setting_58 : decode cX4_setting 58 = .ok (.goto 6, 3) := by decide +kernel
theorem dX4_setting_61 : decode cX4_setting 61 = .ok (.sipush (-10002), 3) := by decide +kernel
theorem dX4_setting_64 : decode cX4_setting 64 = .ok (.ireturn, 1) := by decide +kernel
theorem dX4_layGrid_0 : decode cX4_layGrid 0 = .ok (.iload_n 1, 1) := by decide +kernel
theorem dX4_layGrid_1 : decode cX4_layGrid 1 = .ok (.iconst 1, 1) := by decide +kernel
theorem dX4_layGrid_2 : decode cX4_layGrid 2 = .ok (.iconst 4, 1) := by decide +kernel
theorem dX4_layGrid_3 : decode cX4_layGrid 3 = .ok (.invokestatic 40, 3) := by decide +kernel
theorem dX4_layGrid_6 : decode cX4_layGrid 6 = .ok (.ifCond .eq 12, 3) := by decide +kernel
theorem dX4_layGrid_9 : decode cX4_layGrid 9 = .ok (.iload_n 2, 1) := by decide +kernel
theorem dX4_layGrid_10 : decode cX4_layGrid 10 = .ok (.iconst 1, 1) := by decide +kernel
theorem dX4_layGrid_11 : decode cX4_layGrid 11 = .ok (.iconst 4, 1) := by decide +kernel
theorem dX4_layGrid_12 : decode cX4_layGrid 12 = .ok (.invokestatic 40, 3) := by decide +kernel
theorem dX4_layGrid_15 : decode cX4_layGrid 15 = .ok (.ifCond .ne 7, 3) := by decide +kernel
theorem dX4_layGrid_18 : decode cX4_layGrid 18 = .ok (.sipush (-10002), 3) := by decide +kernel
theorem dX4_layGrid_21 : decode cX4_layGrid 21 = .ok (.ireturn, 1) := by decide +kernel
theorem dX4_layGrid_22 : decode cX4_layGrid 22 = .ok (.aload_n 0, 1) := by decide +kernel
theorem dX4_layGrid_23 : decode cX4_layGrid 23 = .ok (.getfield 9, 3) := by decide +kernel
theorem dX4_layGrid_26 : decode cX4_layGrid 26 = .ok (.aload_n 0, 1) := by decide +kernel
theorem dX4_layGrid_27 : decode cX4_layGrid 27 = .ok (.getfield 15, 3) := by decide +kernel
theorem dX4_layGrid_30 : decode cX4_layGrid 30 = .ok (.imul, 1) := by decide +kernel
theorem dX4_layGrid_31 : decode cX4_layGrid 31 = .ok (.istore_n 3, 1) := by decide +kernel
theorem dX4_layGrid_32 : decode cX4_layGrid 32 = .ok (.aload_n 0, 1) := by decide +kernel
theorem dX4_layGrid_33 : decode cX4_layGrid 33 = .ok (.iload_n 1, 1) := by decide +kernel
theorem dX4_layGrid_34 : decode cX4_layGrid 34 = .ok (.putfield 9, 3) := by decide +kernel
theorem dX4_layGrid_37 : decode cX4_layGrid 37 = .ok (.aload_n 0, 1) := by decide +kernel
theorem dX4_layGrid_38 : decode cX4_layGrid 38 = .ok (.iload_n 2, 1) := by decide +kernel
theorem dX4_layGrid_39 : decode cX4_layGrid 39 = .ok (.putfield 15, 3) := by decide +kernel
theorem dX4_layGrid_42 : decode cX4_layGrid 42 = .ok (.aload_n 0, 1) := by decide +kernel
theorem dX4_layGrid_43 : decode cX4_layGrid 43 = .ok (.getfield 25, 3) := by decide +kernel
theorem dX4_layGrid_46 : decode cX4_layGrid 46 = .ok (.iconst 0, 1) := by decide +kernel
theorem dX4_layGrid_47 : decode cX4_layGrid 47 = .ok (.invokestatic 44, 3) := by decide +kernel
theorem dX4_layGrid_50 : decode cX4_layGrid 50 = .ok (.iload_n 3, 1) := by decide +kernel
theorem dX4_layGrid_51 : decode cX4_layGrid 51 = .ok (.ireturn, 1) := by decide +kernel
theorem dX4_putWave_0 : decode cX4_putWave 0 = .ok (.iload_n 1, 1) := by decide +kernel
theorem dX4_putWave_1 : decode cX4_putWave 1 = .ok (.iconst 0, 1) := by decide +kernel
theorem dX4_putWave_2 : decode cX4_putWave 2 = .ok (.iconst 2, 1) := by decide +kernel
theorem dX4_putWave_3 : decode cX4_putWave 3 = .ok (.invokestatic 40, 3) := by decide +kernel
theorem dX4_putWave_6 : decode cX4_putWave 6 = .ok (.ifCond .eq 15, 3) := by decide +kernel
theorem dX4_putWave_9 : decode cX4_putWave 9 = .ok (.iload_n 2, 1) := by decide +kernel
theorem dX4_putWave_10 : decode cX4_putWave 10 = .ok (.bipush 10, 2) := by decide +kernel
theorem dX4_putWave_12 : decode cX4_putWave 12 = .ok (.sipush 2000, 3) := by decide +kernel
theorem dX4_putWave_15 : decode cX4_putWave 15 = .ok (.invokestatic 40, 3) := by decide +kernel
theorem dX4_putWave_18 : decode cX4_putWave 18 = .ok (.ifCond .ne 7, 3) := by decide +kernel
theorem dX4_putWave_21 : decode cX4_putWave 21 = .ok (.sipush (-10002), 3) := by decide +kernel
theorem dX4_putWave_24 : decode cX4_putWave 24 = .ok (.ireturn, 1) := by decide +kernel
theorem dX4_putWave_25 : decode cX4_putWave 25 = .ok (.aload_n 0, 1) := by decide +kernel
theorem dX4_putWave_26 : decode cX4_putWave 26 = .ok (.getfield 18, 3) := by decide +kernel
theorem dX4_putWave_29 : decode cX4_putWave 29 = .ok (.iload_n 1, 1) := by decide +kernel
theorem dX4_putWave_30 : decode cX4_putWave 30 = .ok (.iaload, 1) := by decide +kernel
theorem dX4_putWave_31 : decode cX4_putWave 31 = .ok (.istore_n 3, 1) := by decide +kernel
theorem dX4_putWave_32 : decode cX4_putWave 32 = .ok (.aload_n 0, 1) := by decide +kernel
theorem dX4_putWave_33 : decode cX4_putWave 33 = .ok (.getfield 18, 3) := by decide +kernel
theorem dX4_putWave_36 : decode cX4_putWave 36 = .ok (.iload_n 1, 1) := by decide +kernel
theorem dX4_putWave_37 : decode cX4_putWave 37 = .ok (.iload_n 2, 1) := by decide +kernel
theorem dX4_putWave_38 : decode cX4_putWave 38 = .ok (.iastore, 1) := by decide +kernel
theorem dX4_putWave_39 : decode cX4_putWave 39 = .ok (.iload_n 3, 1) := by decide +kernel
theorem dX4_putWave_40 : decode cX4_putWave 40 = .ok (.ireturn, 1) := by decide +kernel
theorem dX4_putSetting_0 : decode cX4_putSetting 0 = .ok (.iload_n 1, 1) := by decide +kernel
theorem dX4_putSetting_1 : decode cX4_putSetting 1 = .ok (.iconst 0, 1) := by decide +kernel
theorem dX4_putSetting_2 : decode cX4_putSetting 2 = .ok (.iconst 5, 1) := by decide +kernel
theorem dX4_putSetting_3 : decode cX4_putSetting 3 = .ok (.invokestatic 40, 3) := by decide +kernel
theorem dX4_putSetting_6 : decode cX4_putSetting 6 = .ok (.ifCond .eq 20, 3) := by decide +kernel
theorem dX4_putSetting_9 : decode cX4_putSetting 9 = .ok (.iload_n 2, 1) := by decide +kernel
theorem dX4_putSetting_10 : decode cX4_putSetting 10 = .ok (.getstatic 50, 3) := by decide +kernel
theorem dX4_putSetting_13 : decode cX4_putSetting 13 = .ok (.iload_n 1, 1) := by decide +kernel
theorem dX4_putSetting_14 : decode cX4_putSetting 14 = .ok (.iaload, 1) := by decide +kernel
theorem dX4_putSetting_15 : decode cX4_putSetting 15 = .ok (.getstatic 53, 3) := by decide +kernel
theorem dX4_putSetting_18 : decode cX4_putSetting 18 = .ok (.iload_n 1, 1) := by decide +kernel
theorem dX4_putSetting_19 : decode cX4_putSetting 19 = .ok (.iaload, 1) := by decide +kernel
theorem dX4_putSetting_20 : decode cX4_putSetting 20 = .ok (.invokestatic 40, 3) := by decide +kernel
theorem dX4_putSetting_23 : decode cX4_putSetting 23 = .ok (.ifCond .ne 7, 3) := by decide +kernel
theorem dX4_putSetting_26 : decode cX4_putSetting 26 = .ok (.sipush (-10002), 3) := by decide +kernel
theorem dX4_putSetting_29 : decode cX4_putSetting 29 = .ok (.ireturn, 1) := by decide +kernel
theorem dX4_putSetting_30 : decode cX4_putSetting 30 = .ok (.aload_n 0, 1) := by decide +kernel
theorem dX4_putSetting_31 : decode cX4_putSetting 31 = .ok (.getfield 22, 3) := by decide +kernel
theorem dX4_putSetting_34 : decode cX4_putSetting 34 = .ok (.iload_n 1, 1) := by decide +kernel
theorem dX4_putSetting_35 : decode cX4_putSetting 35 = .ok (.iaload, 1) := by decide +kernel
theorem dX4_putSetting_36 : decode cX4_putSetting 36 = .ok (.istore_n 3, 1) := by decide +kernel
theorem dX4_putSetting_37 : decode cX4_putSetting 37 = .ok (.aload_n 0, 1) := by decide +kernel
theorem dX4_putSetting_38 : decode cX4_putSetting 38 = .ok (.getfield 22, 3) := by decide +kernel
theorem dX4_putSetting_41 : decode cX4_putSetting 41 = .ok (.iload_n 1, 1) := by decide +kernel
theorem dX4_putSetting_42 : decode cX4_putSetting 42 = .ok (.iload_n 2, 1) := by decide +kernel
theorem dX4_putSetting_43 : decode cX4_putSetting 43 = .ok (.iastore, 1) := by decide +kernel
theorem dX4_putSetting_44 : decode cX4_putSetting 44 = .ok (.iload_n 3, 1) := by decide +kernel
theorem dX4_putSetting_45 : decode cX4_putSetting 45 = .ok (.ireturn, 1) := by decide +kernel
theorem dX4_putSample_0 : decode cX4_putSample 0 = .ok (.iload_n 1, 1) := by decide +kernel
theorem dX4_putSample_1 : decode cX4_putSample 1 = .ok (.invokestatic 56, 3) := by decide +kernel
theorem dX4_putSample_4 : decode cX4_putSample 4 = .ok (.ifCond .eq 33, 3) := by decide +kernel
theorem dX4_putSample_7 : decode cX4_putSample 7 = .ok (.iload_n 2, 1) := by decide +kernel
theorem dX4_putSample_8 : decode cX4_putSample 8 = .ok (.iconst 0, 1) := by decide +kernel
theorem dX4_putSample_9 : decode cX4_putSample 9 = .ok (.iconst 2, 1) := by decide +kernel
theorem dX4_putSample_10 : decode cX4_putSample 10 = .ok (.invokestatic 40, 3) := by decide +kernel
theorem dX4_putSample_13 : decode cX4_putSample 13 = .ok (.ifCond .eq 24, 3) := by decide +kernel
theorem dX4_putSample_16 : decode cX4_putSample 16 = .ok (.iload_n 3, 1) := by decide +kernel
theorem dX4_putSample_17 : decode cX4_putSample 17 = .ok (.iconst 0, 1) := by decide +kernel
theorem dX4_putSample_18 : decode cX4_putSample 18 = .ok (.iconst 3, 1) := by decide +kernel
theorem dX4_putSample_19 : decode cX4_putSample 19 = .ok (.invokestatic 40, 3) := by decide +kernel
theorem dX4_putSample_22 : decode cX4_putSample 22 = .ok (.ifCond .eq 15, 3) := by decide +kernel
theorem dX4_putSample_25 : decode cX4_putSample 25 = .ok (.iload 4, 2) := by decide +kernel
theorem dX4_putSample_27 : decode cX4_putSample 27 = .ok (.iconst 0, 1) := by decide +kernel
theorem dX4_putSample_28 : decode cX4_putSample 28 = .ok (.sipush 4095, 3) := by decide +kernel
theorem dX4_putSample_31 : decode cX4_putSample 31 = .ok (.invokestatic 40, 3) := by decide +kernel
theorem dX4_putSample_34 : decode cX4_putSample 34 = .ok (.ifCond .ne 7, 3) := by decide +kernel
theorem dX4_putSample_37 : decode cX4_putSample 37 = .ok (.sipush (-10002), 3) := by decide +kernel
theorem dX4_putSample_40 : decode cX4_putSample 40 = .ok (.ireturn, 1) := by decide +kernel
theorem dX4_putSample_41 : decode cX4_putSample 41 = .ok (.iload_n 1, 1) := by decide +kernel
theorem dX4_putSample_42 : decode cX4_putSample 42 = .ok (.bipush 12, 2) := by decide +kernel
theorem dX4_putSample_44 : decode cX4_putSample 44 = .ok (.imul, 1) := by decide +kernel
theorem dX4_putSample_45 : decode cX4_putSample 45 = .ok (.iload_n 2, 1) := by decide +kernel
theorem dX4_putSample_46 : decode cX4_putSample 46 = .ok (.iconst 4, 1) := by decide +kernel
theorem dX4_putSample_47 : decode cX4_putSample 47 = .ok (.imul, 1) := by decide +kernel
theorem dX4_putSample_48 : decode cX4_putSample 48 = .ok (.iadd, 1) := by decide +kernel
theorem dX4_putSample_49 : decode cX4_putSample 49 = .ok (.iload_n 3, 1) := by decide +kernel
theorem dX4_putSample_50 : decode cX4_putSample 50 = .ok (.iadd, 1) := by decide +kernel
theorem dX4_putSample_51 : decode cX4_putSample 51 = .ok (.istore 5, 2) := by decide +kernel
theorem dX4_putSample_53 : decode cX4_putSample 53 = .ok (.aload_n 0, 1) := by decide +kernel
theorem dX4_putSample_54 : decode cX4_putSample 54 = .ok (.getfield 25, 3) := by decide +kernel
theorem dX4_putSample_57 : decode cX4_putSample 57 = .ok (.iload 5, 2) := by decide +kernel
theorem dX4_putSample_59 : decode cX4_putSample 59 = .ok (.iaload, 1) := by decide +kernel
theorem dX4_putSample_60 : decode cX4_putSample 60 = .ok (.istore 6, 2) := by decide +kernel
theorem dX4_putSample_62 : decode cX4_putSample 62 = .ok (.aload_n 0, 1) := by decide +kernel
theorem dX4_putSample_63 : decode cX4_putSample 63 = .ok (.getfield 25, 3) := by decide +kernel
theorem dX4_putSample_66 : decode cX4_putSample 66 = .ok (.iload 5, 2) := by decide +kernel
theorem dX4_putSample_68 : decode cX4_putSample 68 = .ok (.iload 4, 2) := by decide +kernel
theorem dX4_putSample_70 : decode cX4_putSample 70 = .ok (.iastore, 1) := by decide +kernel
theorem dX4_putSample_71 : decode cX4_putSample 71 = .ok (.iload 6, 2) := by decide +kernel
theorem dX4_putSample_73 : decode cX4_putSample 73 = .ok (.ireturn, 1) := by decide +kernel
theorem dX4_layEcho_0 : decode cX4_layEcho 0 = .ok (.iload_n 1, 1) := by decide +kernel
theorem dX4_layEcho_1 : decode cX4_layEcho 1 = .ok (.invokestatic 56, 3) := by decide +kernel
theorem dX4_layEcho_4 : decode cX4_layEcho 4 = .ok (.ifCond .eq 25, 3) := by decide +kernel
theorem dX4_layEcho_7 : decode cX4_layEcho 7 = .ok (.iload_n 2, 1) := by decide +kernel
theorem dX4_layEcho_8 : decode cX4_layEcho 8 = .ok (.iconst 0, 1) := by decide +kernel
theorem dX4_layEcho_9 : decode cX4_layEcho 9 = .ok (.sipush 9999, 3) := by decide +kernel
theorem dX4_layEcho_12 : decode cX4_layEcho 12 = .ok (.invokestatic 40, 3) := by decide +kernel
theorem dX4_layEcho_15 : decode cX4_layEcho 15 = .ok (.ifCond .eq 14, 3) := by decide +kernel
theorem dX4_layEcho_18 : decode cX4_layEcho 18 = .ok (.iload_n 3, 1) := by decide +kernel
theorem dX4_layEcho_19 : decode cX4_layEcho 19 = .ok (.iconst 1, 1) := by decide +kernel
theorem dX4_layEcho_20 : decode cX4_layEcho 20 = .ok (.sipush 1000, 3) := by decide +kernel
theorem dX4_layEcho_23 : decode cX4_layEcho 23 = .ok (.invokestatic 40, 3) := by decide +kernel
theorem dX4_layEcho_26 : decode cX4_layEcho 26 = .ok (.ifCond .ne 7, 3) := by decide +kernel
theorem dX4_layEcho_29 : decode cX4_layEcho 29 = .ok (.sipush (-10002), 3) := by decide +kernel
theorem dX4_layEcho_32 : decode cX4_layEcho 32 = .ok (.ireturn, 1) := by decide +kernel
theorem dX4_layEcho_33 : decode cX4_layEcho 33 = .ok (.iconst 0, 1) := by decide +kernel
theorem dX4_layEcho_34 : decode cX4_layEcho 34 = .ok (.istore 4, 2) := by decide +kernel
theorem dX4_layEcho_36 : decode cX4_layEcho 36 = .ok (.iload 4, 2) := by decide +kernel
theorem dX4_layEcho_38 : decode cX4_layEcho 38 = .ok (.iconst 3, 1) := by decide +kernel
theorem dX4_layEcho_39 : decode cX4_layEcho 39 = .ok (.if_icmp .ge 31, 3) := by decide +kernel
theorem dX4_layEcho_42 : decode cX4_layEcho 42 = .ok (.aload_n 0, 1) := by decide +kernel
theorem dX4_layEcho_43 : decode cX4_layEcho 43 = .ok (.iload_n 1, 1) := by decide +kernel
theorem dX4_layEcho_44 : decode cX4_layEcho 44 = .ok (.bipush 12, 2) := by decide +kernel
theorem dX4_layEcho_46 : decode cX4_layEcho 46 = .ok (.imul, 1) := by decide +kernel
theorem dX4_layEcho_47 : decode cX4_layEcho 47 = .ok (.iload 4, 2) := by decide +kernel
theorem dX4_layEcho_49 : decode cX4_layEcho 49 = .ok (.iconst 4, 1) := by decide +kernel
theorem dX4_layEcho_50 : decode cX4_layEcho 50 = .ok (.imul, 1) := by decide +kernel
theorem dX4_layEcho_51 : decode cX4_layEcho 51 = .ok (.iadd, 1) := by decide +kernel
theorem dX4_layEcho_52 : decode cX4_layEcho 52 = .ok (.iload_n 2, 1) := by decide +kernel
theorem dX4_layEcho_53 : decode cX4_layEcho 53 = .ok (.iload_n 3, 1) := by decide +kernel
theorem dX4_layEcho_54 : decode cX4_layEcho 54 = .ok (.aload_n 0, 1) := by decide +kernel
theorem dX4_layEcho_55 : decode cX4_layEcho 55 = .ok (.getfield 18, 3) := by decide +kernel
theorem dX4_layEcho_58 : decode cX4_layEcho 58 = .ok (.iload 4, 2) := by decide +kernel
theorem dX4_layEcho_60 : decode cX4_layEcho 60 = .ok (.iaload, 1) := by decide +kernel
theorem dX4_layEcho_61 : decode cX4_layEcho 61 = .ok (.invokevirtual 60, 3) := by decide +kernel
theorem dX4_layEcho_64 : decode cX4_layEcho 64 = .ok (.iinc 4 1, 3) := by decide +kernel
theorem dX4_layEcho_67 : decode cX4_layEcho 67 = .ok (.goto (-31), 3) := by decide +kernel
theorem dX4_layEcho_70 : decode cX4_layEcho 70 = .ok (.aload_n 0, 1) := by decide +kernel
theorem dX4_layEcho_71 : decode cX4_layEcho 71 = .ok (.iload_n 1, 1) := by decide +kernel
theorem dX4_layEcho_72 : decode cX4_layEcho 72 = .ok (.sipush 4095, 3) := by decide +kernel
theorem dX4_layEcho_75 : decode cX4_layEcho 75 = .ok (.invokevirtual 64, 3) := by decide +kernel
theorem dX4_layEcho_78 : decode cX4_layEcho 78 = .ok (.ireturn, 1) := by decide +kernel
theorem dX4_layEchoOfRate_0 : decode cX4_layEchoOfRate 0 = .ok (.iload 4, 2) := by decide +kernel
theorem dX4_layEchoOfRate_2 : decode cX4_layEchoOfRate 2 = .ok (.iconst 1, 1) := by decide +kernel
theorem dX4_layEchoOfRate_3 : decode cX4_layEchoOfRate 3 = .ok (.if_icmp .ge 4, 3) := by decide +kernel
theorem dX4_layEchoOfRate_6 : decode cX4_layEchoOfRate 6 = .ok (.return_, 1) := by decide +kernel
theorem dX4_layEchoOfRate_7 : decode cX4_layEchoOfRate 7 = .ok (.iload_n 2, 1) := by decide +kernel
theorem dX4_layEchoOfRate_8 : decode cX4_layEchoOfRate 8 = .ok (.iload 4, 2) := by decide +kernel
theorem dX4_layEchoOfRate_10 : decode cX4_layEchoOfRate 10 = .ok (.irem, 1) := by decide +kernel
theorem dX4_layEchoOfRate_11 : decode cX4_layEchoOfRate 11 = .ok (.istore 5, 2) := by decide +kernel
theorem dX4_layEchoOfRate_13 : decode cX4_layEchoOfRate 13 = .ok (.ldc 68, 2) := by decide +kernel
theorem dX4_layEchoOfRate_15 : decode cX4_layEchoOfRate 15 = .ok (.iload 5, 2) := by decide +kernel
theorem dX4_layEchoOfRate_17 : decode cX4_layEchoOfRate 17 = .ok (.i2f, 1) := by decide +kernel
theorem dX4_layEchoOfRate_18 : decode cX4_layEchoOfRate 18 = .ok (.fmul, 1) := by decide +kernel
theorem dX4_layEchoOfRate_19 : decode cX4_layEchoOfRate 19 = .ok (.iload 4, 2) := by decide +kernel
theorem dX4_layEchoOfRate_21 : decode cX4_layEchoOfRate 21 = .ok (.i2f, 1) := by decide +kernel
theorem dX4_layEchoOfRate_22 : decode cX4_layEchoOfRate 22 = .ok (.fdiv, 1) := by decide +kernel
theorem dX4_layEchoOfRate_23 : decode cX4_layEchoOfRate 23 = .ok (.fstore 6, 2) := by decide +kernel
theorem dX4_layEchoOfRate_25 : decode cX4_layEchoOfRate 25 = .ok (.fload 6, 2) := by decide +kernel
theorem dX4_layEchoOfRate_27 : decode cX4_layEchoOfRate 27 = .ok (.fconst 1, 1) := by decide +kernel
theorem dX4_layEchoOfRate_28 : decode cX4_layEchoOfRate 28 = .ok (.fcmp .g, 1) := by decide +kernel
theorem dX4_layEchoOfRate_29 : decode cX4_layEchoOfRate 29 = .ok (.ifCond .ge 25, 3) := by decide +kernel
theorem dX4_layEchoOfRate_32 : decode cX4_layEchoOfRate 32 = .ok (.iload_n 3, 1) := by decide +kernel
theorem dX4_layEchoOfRate_33 : decode cX4_layEchoOfRate 33 = .ok (.i2f, 1) := by decide +kernel
theorem dX4_layEchoOfRate_34 : decode cX4_layEchoOfRate 34 = .ok (.fload 6, 2) := by decide +kernel
theorem dX4_layEchoOfRate_36 : decode cX4_layEchoOfRate 36 = .ok (.fmul, 1) := by decide +kernel
theorem dX4_layEchoOfRate_37 : decode cX4_layEchoOfRate 37 = .ok (.f2i, 1) := by decide +kernel
theorem dX4_layEchoOfRate_38 : decode cX4_layEchoOfRate 38 = .ok (.istore 7, 2) := by decide +kernel
theorem dX4_layEchoOfRate_40 : decode cX4_layEchoOfRate 40 = .ok (.aload_n 0, 1) := by decide +kernel
theorem dX4_layEchoOfRate_41 : decode cX4_layEchoOfRate 41 = .ok (.iload_n 1, 1) := by decide +kernel
theorem dX4_layEchoOfRate_42 : decode cX4_layEchoOfRate 42 = .ok (.iload_n 3, 1) := by decide +kernel
theorem dX4_layEchoOfRate_43 : decode cX4_layEchoOfRate 43 = .ok (.iload 7, 2) := by decide +kernel
theorem dX4_layEchoOfRate_45 : decode cX4_layEchoOfRate 45 = .ok (.isub, 1) := by decide +kernel
theorem dX4_layEchoOfRate_46 : decode cX4_layEchoOfRate 46 = .ok (.iload 7, 2) := by decide +kernel
theorem dX4_layEchoOfRate_48 : decode cX4_layEchoOfRate 48 = .ok (.invokevirtual 69, 3) := by decide +kernel
theorem dX4_layEchoOfRate_51 : decode cX4_layEchoOfRate 51 = .ok (.goto 90, 3) := by decide +kernel
theorem dX4_layEchoOfRate_54 : decode cX4_layEchoOfRate 54 = .ok (.fload 6, 2) := by decide +kernel
theorem dX4_layEchoOfRate_56 : decode cX4_layEchoOfRate 56 = .ok (.fconst 2, 1) := by decide +kernel
theorem dX4_layEchoOfRate_57 : decode cX4_layEchoOfRate 57 = .ok (.fcmp .g, 1) := by decide +kernel
theorem dX4_layEchoOfRate_58 : decode cX4_layEchoOfRate 58 = .ok (.ifCond .ge 28, 3) := by decide +kernel
theorem dX4_layEchoOfRate_61 : decode cX4_layEchoOfRate 61 = .ok (.iload_n 3, 1) := by decide +kernel
theorem dX4_layEchoOfRate_62 : decode cX4_layEchoOfRate 62 = .ok (.i2f, 1) := by decide +kernel
theorem dX4_layEchoOfRate_63 : decode cX4_layEchoOfRate 63 = .ok (.fload 6, 2) := by decide +kernel
theorem dX4_layEchoOfRate_65 : decode cX4_layEchoOfRate 65 = .ok (.fconst 1, 1) := by decide +kernel
theorem dX4_layEchoOfRate_66 : decode cX4_layEchoOfRate 66 = .ok (.fsub, 1) := by decide +kernel
theorem dX4_layEchoOfRate_67 : decode cX4_layEchoOfRate 67 = .ok (.fmul, 1) := by decide +kernel
theorem dX4_layEchoOfRate_68 : decode cX4_layEchoOfRate 68 = .ok (.f2i, 1) := by decide +kernel
theorem dX4_layEchoOfRate_69 : decode cX4_layEchoOfRate 69 = .ok (.istore 7, 2) := by decide +kernel
theorem dX4_layEchoOfRate_71 : decode cX4_layEchoOfRate 71 = .ok (.aload_n 0, 1) := by decide +kernel
theorem dX4_layEchoOfRate_72 : decode cX4_layEchoOfRate 72 = .ok (.iload_n 1, 1) := by decide +kernel
theorem dX4_layEchoOfRate_73 : decode cX4_layEchoOfRate 73 = .ok (.iload 7, 2) := by decide +kernel
theorem dX4_layEchoOfRate_75 : decode cX4_layEchoOfRate 75 = .ok (.ineg, 1) := by decide +kernel
theorem dX4_layEchoOfRate_76 : decode cX4_layEchoOfRate 76 = .ok (.iload_n 3, 1) := by decide +kernel
theorem dX4_layEchoOfRate_77 : decode cX4_layEchoOfRate 77 = .ok (.iload 7, 2) := by decide +kernel
theorem dX4_layEchoOfRate_79 : decode cX4_layEchoOfRate 79 = .ok (.isub, 1) := by decide +kernel
theorem dX4_layEchoOfRate_80 : decode cX4_layEchoOfRate 80 = .ok (.invokevirtual 69, 3) := by decide +kernel
theorem dX4_layEchoOfRate_83 : decode cX4_layEchoOfRate 83 = .ok (.goto 58, 3) := by decide +kernel
theorem dX4_layEchoOfRate_86 : decode cX4_layEchoOfRate 86 = .ok (.fload 6, 2) := by decide +kernel
theorem dX4_layEchoOfRate_88 : decode cX4_layEchoOfRate 88 = .ok (.ldc 73, 2) := by decide +kernel
theorem dX4_layEchoOfRate_90 : decode cX4_layEchoOfRate 90 = .ok (.fcmp .g, 1) := by decide +kernel
theorem dX4_layEchoOfRate_91 : decode cX4_layEchoOfRate 91 = .ok (.ifCond .ge 28, 3) := by decide +kernel
theorem dX4_layEchoOfRate_94 : decode cX4_layEchoOfRate 94 = .ok (.iload_n 3, 1) := by decide +kernel
theorem dX4_layEchoOfRate_95 : decode cX4_layEchoOfRate 95 = .ok (.i2f, 1) := by decide +kernel
theorem dX4_layEchoOfRate_96 : decode cX4_layEchoOfRate 96 = .ok (.fload 6, 2) := by decide +kernel
theorem dX4_layEchoOfRate_98 : decode cX4_layEchoOfRate 98 = .ok (.fconst 2, 1) := by decide +kernel
theorem dX4_layEchoOfRate_99 : decode cX4_layEchoOfRate 99 = .ok (.fsub, 1) := by decide +kernel
theorem dX4_layEchoOfRate_100 : decode cX4_layEchoOfRate 100 = .ok (.fmul, 1) := by decide +kernel
theorem dX4_layEchoOfRate_101 : decode cX4_layEchoOfRate 101 = .ok (.f2i, 1) := by decide +kernel
theorem dX4_layEchoOfRate_102 : decode cX4_layEchoOfRate 102 = .ok (.istore 7, 2) := by decide +kernel
theorem dX4_layEchoOfRate_104 : decode cX4_layEchoOfRate 104 = .ok (.aload_n 0, 1) := by decide +kernel
theorem dX4_layEchoOfRate_105 : decode cX4_layEchoOfRate 105 = .ok (.iload_n 1, 1) := by decide +kernel
theorem dX4_layEchoOfRate_106 : decode cX4_layEchoOfRate 106 = .ok (.iload 7, 2) := by decide +kernel
theorem dX4_layEchoOfRate_108 : decode cX4_layEchoOfRate 108 = .ok (.iload_n 3, 1) := by decide +kernel
theorem dX4_layEchoOfRate_109 : decode cX4_layEchoOfRate 109 = .ok (.isub, 1) := by decide +kernel
theorem dX4_layEchoOfRate_110 : decode cX4_layEchoOfRate 110 = .ok (.iload 7, 2) := by decide +kernel
theorem dX4_layEchoOfRate_112 : decode cX4_layEchoOfRate 112 = .ok (.ineg, 1) := by decide +kernel
theorem dX4_layEchoOfRate_113 : decode cX4_layEchoOfRate 113 = .ok (.invokevirtual 69, 3) := by decide +kernel
theorem dX4_layEchoOfRate_116 : decode cX4_layEchoOfRate 116 = .ok (.goto 25, 3) := by decide +kernel
theorem dX4_layEchoOfRate_119 : decode cX4_layEchoOfRate 119 = .ok (.iload_n 3, 1) := by decide +kernel
theorem dX4_layEchoOfRate_120 : decode cX4_layEchoOfRate 120 = .ok (.i2f, 1) := by decide +kernel
theorem dX4_layEchoOfRate_121 : decode cX4_layEchoOfRate 121 = .ok (.fload 6, 2) := by decide +kernel
theorem dX4_layEchoOfRate_123 : decode cX4_layEchoOfRate 123 = .ok (.ldc 73, 2) := by decide +kernel
theorem dX4_layEchoOfRate_125 : decode cX4_layEchoOfRate 125 = .ok (.fsub, 1) := by decide +kernel
theorem dX4_layEchoOfRate_126 : decode cX4_layEchoOfRate 126 = .ok (.fmul, 1) := by decide +kernel
theorem dX4_layEchoOfRate_127 : decode cX4_layEchoOfRate 127 = .ok (.f2i, 1) := by decide +kernel
theorem dX4_layEchoOfRate_128 : decode cX4_layEchoOfRate 128 = .ok (.istore 7, 2) := by decide +kernel
theorem dX4_layEchoOfRate_130 : decode cX4_layEchoOfRate 130 = .ok (.aload_n 0, 1) := by decide +kernel
theorem dX4_layEchoOfRate_131 : decode cX4_layEchoOfRate 131 = .ok (.iload_n 1, 1) := by decide +kernel
theorem dX4_layEchoOfRate_132 : decode cX4_layEchoOfRate 132 = .ok (.iload 7, 2) := by decide +kernel
theorem dX4_layEchoOfRate_134 : decode cX4_layEchoOfRate 134 = .ok (.iload 7, 2) := by decide +kernel
theorem dX4_layEchoOfRate_136 : decode cX4_layEchoOfRate 136 = .ok (.iload_n 3, 1) := by decide +kernel
theorem dX4_layEchoOfRate_137 : decode cX4_layEchoOfRate 137 = .ok (.isub, 1) := by decide +kernel
theorem dX4_layEchoOfRate_138 : decode cX4_layEchoOfRate 138 = .ok (.invokevirtual 69, 3) := by decide +kernel
theorem dX4_layEchoOfRate_141 : decode cX4_layEchoOfRate 141 = .ok (.return_, 1) := by decide +kernel
theorem dX4_addSignal_0 : decode cX4_addSignal 0 = .ok (.aload_n 0, 1) := by decide +kernel
theorem dX4_addSignal_1 : decode cX4_addSignal 1 = .ok (.iload_n 2, 1) := by decide +kernel
theorem dX4_addSignal_2 : decode cX4_addSignal 2 = .ok (.ifCond .le 7, 3) := by decide +kernel
theorem dX4_addSignal_5 : decode cX4_addSignal 5 = .ok (.iload_n 1, 1) := by decide +kernel
theorem dX4_addSignal_6 : decode cX4_addSignal 6 = .ok (.goto 6, 3) := by decide +kernel
theorem dX4_addSignal_9 : decode cX4_addSignal 9 = .ok (.iload_n 1, 1) := by decide +kernel
theorem dX4_addSignal_10 : decode cX4_addSignal 10 = .ok (.iconst 2, 1) := by decide +kernel
theorem dX4_addSignal_11 : decode cX4_addSignal 11 = .ok (.iadd, 1) := by decide +kernel
theorem dX4_addSignal_12 : decode cX4_addSignal 12 = .ok (.iload_n 2, 1) := by decide +kernel
theorem dX4_addSignal_13 : decode cX4_addSignal 13 = .ok (.invokestatic 74, 3) := by decide +kernel
theorem dX4_addSignal_16 : decode cX4_addSignal 16 = .ok (.invokevirtual 80, 3) := by decide +kernel
theorem dX4_addSignal_19 : decode cX4_addSignal 19 = .ok (.aload_n 0, 1) := by decide +kernel
theorem dX4_addSignal_20 : decode cX4_addSignal 20 = .ok (.iload_n 3, 1) := by decide +kernel
theorem dX4_addSignal_21 : decode cX4_addSignal 21 = .ok (.ifCond .le 9, 3) := by decide +kernel
theorem dX4_addSignal_24 : decode cX4_addSignal 24 = .ok (.iload_n 1, 1) := by decide +kernel
theorem dX4_addSignal_25 : decode cX4_addSignal 25 = .ok (.iconst 1, 1) := by decide +kernel
theorem dX4_addSignal_26 : decode cX4_addSignal 26 = .ok (.iadd, 1) := by decide +kernel
theorem dX4_addSignal_27 : decode cX4_addSignal 27 = .ok (.goto 6, 3) := by decide +kernel
theorem dX4_addSignal_30 : decode cX4_addSignal 30 = .ok (.iload_n 1, 1) := by decide +kernel
theorem dX4_addSignal_31 : decode cX4_addSignal 31 = .ok (.iconst 3, 1) := by decide +kernel
theorem dX4_addSignal_32 : decode cX4_addSignal 32 = .ok (.iadd, 1) := by decide +kernel
theorem dX4_addSignal_33 : decode cX4_addSignal 33 = .ok (.iload_n 3, 1) := by decide +kernel
theorem dX4_addSignal_34 : decode cX4_addSignal 34 = .ok (.invokestatic 74, 3) := by decide +kernel
theorem dX4_addSignal_37 : decode cX4_addSignal 37 = .ok (.invokevirtual 80, 3) := by decide +kernel
theorem dX4_addSignal_40 : decode cX4_addSignal 40 = .ok (.return_, 1) := by decide +kernel
theorem dX4_brighten_0 : decode cX4_brighten 0 = .ok (.iload_n 1, 1) := by decide +kernel
theorem dX4_brighten_1 : decode cX4_brighten 1 = .ok (.iconst 0, 1) := by decide +kernel
theorem dX4_brighten_2 : decode cX4_brighten 2 = .ok (.aload_n 0, 1) := by decide +kernel
theorem dX4_brighten_3 : decode cX4_brighten 3 = .ok (.getfield 25, 3) := by decide +kernel
theorem dX4_brighten_6 : decode cX4_brighten 6 = .ok (.arraylength, 1) := by decide +kernel
theorem dX4_brighten_7 : decode cX4_brighten 7 = .ok (.iconst 1, 1) := by decide +kernel
theorem dX4_brighten_8 : decode cX4_brighten 8 = .ok (.isub, 1) := by decide +kernel
theorem dX4_brighten_9 : decode cX4_brighten 9 = .ok (.invokestatic 40, 3) := by decide +kernel
theorem dX4_brighten_12 : decode cX4_brighten 12 = .ok (.ifCond .eq 23, 3) := by decide +kernel
theorem dX4_brighten_15 : decode cX4_brighten 15 = .ok (.aload_n 0, 1) := by decide +kernel
theorem dX4_brighten_16 : decode cX4_brighten 16 = .ok (.getfield 25, 3) := by decide +kernel
theorem dX4_brighten_19 : decode cX4_brighten 19 = .ok (.iload_n 1, 1) := by decide +kernel
theorem dX4_brighten_20 : decode cX4_brighten 20 = .ok (.sipush 4095, 3) := by decide +kernel
theorem dX4_brighten_23 : decode cX4_brighten 23 = .ok (.aload_n 0, 1) := by decide +kernel
theorem dX4_brighten_24 : decode cX4_brighten 24 = .ok (.getfield 25, 3) := by decide +kernel
theorem dX4_brighten_27 : decode cX4_brighten 27 = .ok (.iload_n 1, 1) := by decide +kernel
theorem dX4_brighten_28 : decode cX4_brighten 28 = .ok (.iaload, 1) := by decide +kernel
theorem dX4_brighten_29 : decode cX4_brighten 29 = .ok (.iload_n 2, 1) := by decide +kernel
theorem dX4_brighten_30 : decode cX4_brighten 30 = .ok (.iadd, 1) := by decide +kernel
theorem dX4_brighten_31 : decode cX4_brighten 31 = .ok (.invokestatic 84, 3) := by decide +kernel
theorem dX4_brighten_34 : decode cX4_brighten 34 = .ok (.iastore, 1) := by decide +kernel
theorem dX4_brighten_35 : decode cX4_brighten 35 = .ok (.return_, 1) := by decide +kernel
theorem dX4_addLight_0 : decode cX4_addLight 0 = .ok (.iload_n 1, 1) := by decide +kernel
theorem dX4_addLight_1 : decode cX4_addLight 1 = .ok (.invokestatic 56, 3) := by decide +kernel
theorem dX4_addLight_4 : decode cX4_addLight 4 = .ok (.ifCond .eq 14, 3) := by decide +kernel
theorem dX4_addLight_7 : decode cX4_addLight 7 = .ok (.iload_n 2, 1) := by decide +kernel
theorem dX4_addLight_8 : decode cX4_addLight 8 = .ok (.iconst 1, 1) := by decide +kernel
theorem dX4_addLight_9 : decode cX4_addLight 9 = .ok (.sipush 4095, 3) := by decide +kernel
theorem dX4_addLight_12 : decode cX4_addLight 12 = .ok (.invokestatic 40, 3) := by decide +kernel
theorem dX4_addLight_15 : decode cX4_addLight 15 = .ok (.ifCond .ne 7, 3) := by decide +kernel
theorem dX4_addLight_18 : decode cX4_addLight 18 = .ok (.sipush (-10002), 3) := by decide +kernel
theorem dX4_addLight_21 : decode cX4_addLight 21 = .ok (.ireturn, 1) := by decide +kernel
theorem dX4_addLight_22 : decode cX4_addLight 22 = .ok (.iconst 0, 1) := by decide +kernel
theorem dX4_addLight_23 : decode cX4_addLight 23 = .ok (.istore_n 3, 1) := by decide +kernel
theorem dX4_addLight_24 : decode cX4_addLight 24 = .ok (.iload_n 3, 1) := by decide +kernel
theorem dX4_addLight_25 : decode cX4_addLight 25 = .ok (.bipush 12, 2) := by decide +kernel
theorem dX4_addLight_27 : decode cX4_addLight 27 = .ok (.if_icmp .ge 20, 3) := by decide +kernel
theorem dX4_addLight_30 : decode cX4_addLight 30 = .ok (.aload_n 0, 1) := by decide +kernel
theorem dX4_addLight_31 : decode cX4_addLight 31 = .ok (.iload_n 1, 1) := by decide +kernel
theorem dX4_addLight_32 : decode cX4_addLight 32 = .ok (.bipush 12, 2) := by decide +kernel
theorem dX4_addLight_34 : decode cX4_addLight 34 = .ok (.imul, 1) := by decide +kernel
theorem dX4_addLight_35 : decode cX4_addLight 35 = .ok (.iload_n 3, 1) := by decide +kernel
theorem dX4_addLight_36 : decode cX4_addLight 36 = .ok (.iadd, 1) := by decide +kernel
theorem dX4_addLight_37 : decode cX4_addLight 37 = .ok (.iload_n 2, 1) := by decide +kernel
theorem dX4_addLight_38 : decode cX4_addLight 38 = .ok (.invokevirtual 80, 3) := by decide +kernel
theorem dX4_addLight_41 : decode cX4_addLight 41 = .ok (.iinc 3 1, 3) := by decide +kernel
theorem dX4_addLight_44 : decode cX4_addLight 44 = .ok (.goto (-20), 3) := by decide +kernel
theorem dX4_addLight_47 : decode cX4_addLight 47 = .ok (.aload_n 0, 1) := by decide +kernel
theorem dX4_addLight_48 : decode cX4_addLight 48 = .ok (.iload_n 1, 1) := by decide +kernel
theorem dX4_addLight_49 : decode cX4_addLight 49 = .ok (.sipush 4095, 3) := by decide +kernel
theorem dX4_addLight_52 : decode cX4_addLight 52 = .ok (.invokevirtual 64, 3) := by decide +kernel
theorem dX4_addLight_55 : decode cX4_addLight 55 = .ok (.ireturn, 1) := by decide +kernel
theorem dX4_countFrom_0 : decode cX4_countFrom 0 = .ok (.iload_n 1, 1) := by decide +kernel
theorem dX4_countFrom_1 : decode cX4_countFrom 1 = .ok (.invokestatic 56, 3) := by decide +kernel
theorem dX4_countFrom_4 : decode cX4_countFrom 4 = .ok (.ifCond .ne 5, 3) := by decide +kernel
theorem dX4_countFrom_7 : decode cX4_countFrom 7 = .ok (.iconst 0, 1) := by decide +kernel
theorem dX4_countFrom_8 : decode cX4_countFrom 8 = .ok (.ireturn, 1) := by decide +kernel
theorem dX4_countFrom_9 : decode cX4_countFrom 9 = .ok (.iconst 0, 1) := by decide +kernel
theorem dX4_countFrom_10 : decode cX4_countFrom 10 = .ok (.istore_n 3, 1) := by decide +kernel
theorem dX4_countFrom_11 : decode cX4_countFrom 11 = .ok (.iconst 0, 1) := by decide +kernel
theorem dX4_countFrom_12 : decode cX4_countFrom 12 = .ok (.istore 4, 2) := by decide +kernel
theorem dX4_countFrom_14 : decode cX4_countFrom 14 = .ok (.iload 4, 2) := by decide +kernel
theorem dX4_countFrom_16 : decode cX4_countFrom 16 = .ok (.bipush 12, 2) := by decide +kernel
theorem dX4_countFrom_18 : decode cX4_countFrom 18 = .ok (.if_icmp .ge 33, 3) := by decide +kernel
theorem dX4_countFrom_21 : decode cX4_countFrom 21 = .ok (.iload_n 3, 1) := by decide +kernel
theorem dX4_countFrom_22 : decode cX4_countFrom 22 = .ok (.aload_n 0, 1) := by decide +kernel
theorem dX4_countFrom_23 : decode cX4_countFrom 23 = .ok (.getfield 25, 3) := by decide +kernel
theorem dX4_countFrom_26 : decode cX4_countFrom 26 = .ok (.iload_n 1, 1) := by decide +kernel
theorem dX4_countFrom_27 : decode cX4_countFrom 27 = .ok (.bipush 12, 2) := by decide +kernel
theorem dX4_countFrom_29 : decode cX4_countFrom 29 = .ok (.imul, 1) := by decide +kernel
theorem dX4_countFrom_30 : decode cX4_countFrom 30 = .ok (.iload 4, 2) := by decide +kernel
theorem dX4_countFrom_32 : decode cX4_countFrom 32 = .ok (.iadd, 1) := by decide +kernel
theorem dX4_countFrom_33 : decode cX4_countFrom 33 = .ok (.iaload, 1) := by decide +kernel
theorem dX4_countFrom_34 : decode cX4_countFrom 34 = .ok (.iload_n 2, 1) := by decide +kernel
theorem dX4_countFrom_35 : decode cX4_countFrom 35 = .ok (.if_icmp .lt 7, 3) := by decide +kernel
theorem dX4_countFrom_38 : decode cX4_countFrom 38 = .ok (.iconst 1, 1) := by decide +kernel
theorem dX4_countFrom_39 : decode cX4_countFrom 39 = .ok (.goto 4, 3) := by decide +kernel
theorem dX4_countFrom_42 : decode cX4_countFrom 42 = .ok (.iconst 0, 1) := by decide +kernel
theorem dX4_countFrom_43 : decode cX4_countFrom 43 = .ok (.iadd, 1) := by decide +kernel
theorem dX4_countFrom_44 : decode cX4_countFrom 44 = .ok (.istore_n 3, 1) := by decide +kernel
theorem dX4_countFrom_45 : decode cX4_countFrom 45 = .ok (.iinc 4 1, 3) := by decide +kernel
theorem dX4_countFrom_48 : decode cX4_countFrom 48 = .ok (.goto (-34), 3) := by decide +kernel
theorem dX4_countFrom_51 : decode cX4_countFrom 51 = .ok (.iload_n 3, 1) := by decide +kernel
theorem dX4_countFrom_52 : decode cX4_countFrom 52 = .ok (.ireturn, 1) := by decide +kernel
theorem dX4_darken_0 : decode cX4_darken 0 = .ok (.iload_n 1, 1) := by decide +kernel
theorem dX4_darken_1 : decode cX4_darken 1 = .ok (.invokestatic 56, 3) := by decide +kernel
theorem dX4_darken_4 : decode cX4_darken 4 = .ok (.ifCond .ne 7, 3) := by decide +kernel
theorem dX4_darken_7 : decode cX4_darken 7 = .ok (.sipush (-10002), 3) := by decide +kernel
theorem dX4_darken_10 : decode cX4_darken 10 = .ok (.ireturn, 1) := by decide +kernel
theorem dX4_darken_11 : decode cX4_darken 11 = .ok (.aload_n 0, 1) := by decide +kernel
theorem dX4_darken_12 : decode cX4_darken 12 = .ok (.iload_n 1, 1) := by decide +kernel
theorem dX4_darken_13 : decode cX4_darken 13 = .ok (.iconst 1, 1) := by decide +kernel
theorem dX4_darken_14 : decode cX4_darken 14 = .ok (.invokevirtual 64, 3) := by decide +kernel
theorem dX4_darken_17 : decode cX4_darken 17 = .ok (.istore_n 2, 1) := by decide +kernel
theorem dX4_darken_18 : decode cX4_darken 18 = .ok (.iconst 0, 1) := by decide +kernel
theorem dX4_darken_19 : decode cX4_darken 19 = .ok (.istore_n 3, 1) := by decide +kernel
theorem dX4_darken_20 : decode cX4_darken 20 = .ok (.iload_n 3, 1) := by decide +kernel
theorem dX4_darken_21 : decode cX4_darken 21 = .ok (.bipush 12, 2) := by decide +kernel
theorem dX4_darken_23 : decode cX4_darken 23 = .ok (.if_icmp .ge 21, 3) := by decide +kernel
theorem dX4_darken_26 : decode cX4_darken 26 = .ok (.aload_n 0, 1) := by decide +kernel
theorem dX4_darken_27 : decode cX4_darken 27 = .ok (.getfield 25, 3) := by decide +kernel
theorem dX4_darken_30 : decode cX4_darken 30 = .ok (.iload_n 1, 1) := by decide +kernel
theorem dX4_darken_31 : decode cX4_darken 31 = .ok (.bipush 12, 2) := by decide +kernel
theorem dX4_darken_33 : decode cX4_darken 33 = .ok (.imul, 1) := by decide +kernel
theorem dX4_darken_34 : decode cX4_darken 34 = .ok (.iload_n 3, 1) := by decide +kernel
theorem dX4_darken_35 : decode cX4_darken 35 = .ok (.iadd, 1) := by decide +kernel
theorem dX4_darken_36 : decode cX4_darken 36 = .ok (.iconst 0, 1) := by decide +kernel
theorem dX4_darken_37 : decode cX4_darken 37 = .ok (.iastore, 1) := by decide +kernel
theorem dX4_darken_38 : decode cX4_darken 38 = .ok (.iinc 3 1, 3) := by decide +kernel
theorem dX4_darken_41 : decode cX4_darken 41 = .ok (.goto (-21), 3) := by decide +kernel
theorem dX4_darken_44 : decode cX4_darken 44 = .ok (.iload_n 2, 1) := by decide +kernel
theorem dX4_darken_45 : decode cX4_darken 45 = .ok (.ireturn, 1) := by decide +kernel
theorem dX4_sampleAt_0 : decode cX4_sampleAt 0 = .ok (.iload_n 1, 1) := by decide +kernel
theorem dX4_sampleAt_1 : decode cX4_sampleAt 1 = .ok (.bipush 12, 2) := by decide +kernel
theorem dX4_sampleAt_3 : decode cX4_sampleAt 3 = .ok (.imul, 1) := by decide +kernel
theorem dX4_sampleAt_4 : decode cX4_sampleAt 4 = .ok (.iload_n 2, 1) := by decide +kernel
theorem dX4_sampleAt_5 : decode cX4_sampleAt 5 = .ok (.iconst 4, 1) := by decide +kernel
theorem dX4_sampleAt_6 : decode cX4_sampleAt 6 = .ok (.imul, 1) := by decide +kernel
theorem dX4_sampleAt_7 : decode cX4_sampleAt 7 = .ok (.iadd, 1) := by decide +kernel
theorem dX4_sampleAt_8 : decode cX4_sampleAt 8 = .ok (.iload_n 3, 1) := by decide +kernel
theorem dX4_sampleAt_9 : decode cX4_sampleAt 9 = .ok (.iadd, 1) := by decide +kernel
theorem dX4_sampleAt_10 : decode cX4_sampleAt 10 = .ok (.istore 4, 2) := by decide +kernel
theorem dX4_sampleAt_12 : decode cX4_sampleAt 12 = .ok (.iload 4, 2) := by decide +kernel
theorem dX4_sampleAt_14 : decode cX4_sampleAt 14 = .ok (.iconst 0, 1) := by decide +kernel
theorem dX4_sampleAt_15 : decode cX4_sampleAt 15 = .ok (.aload_n 0, 1) := by decide +kernel
theorem dX4_sampleAt_16 : decode cX4_sampleAt 16 = .ok (.getfield 25, 3) := by decide +kernel
theorem dX4_sampleAt_19 : decode cX4_sampleAt 19 = .ok (.arraylength, 1) := by decide +kernel
theorem dX4_sampleAt_20 : decode cX4_sampleAt 20 = .ok (.iconst 1, 1) := by decide +kernel
theorem dX4_sampleAt_21 : decode cX4_sampleAt 21 = .ok (.isub, 1) := by decide +kernel
theorem dX4_sampleAt_22 : decode cX4_sampleAt 22 = .ok (.invokestatic 40, 3) := by decide +kernel
theorem dX4_sampleAt_25 : decode cX4_sampleAt 25 = .ok (.ifCond .eq 13, 3) := by decide +kernel
theorem dX4_sampleAt_28 : decode cX4_sampleAt 28 = .ok (.aload_n 0, 1) := by decide +kernel
theorem dX4_sampleAt_29 : decode cX4_sampleAt 29 = .ok (.getfield 25, 3) := by decide +kernel
theorem dX4_sampleAt_32 : decode cX4_sampleAt 32 = .ok (.iload 4, 2) := by decide +kernel
theorem dX4_sampleAt_34 : decode cX4_sampleAt 34 = .ok (.iaload, 1) := by decide +kernel
theorem dX4_sampleAt_35 : decode cX4_sampleAt 35 = .ok (.goto 4, 3) := by decide +kernel
theorem dX4_sampleAt_38 : decode cX4_sampleAt 38 = .ok (.iconst 0, 1) := by decide +kernel
theorem dX4_sampleAt_39 : decode cX4_sampleAt 39 = .ok (.ireturn, 1) := by decide +kernel
theorem dX4_across_0 : decode cX4_across 0 = .ok (.aload_n 0, 1) := by decide +kernel
theorem dX4_across_1 : decode cX4_across 1 = .ok (.iload_n 1, 1) := by decide +kernel
theorem dX4_across_2 : decode cX4_across 2 = .ok (.iload_n 2, 1) := by decide +kernel
theorem dX4_across_3 : decode cX4_across 3 = .ok (.iconst 0, 1) := by decide +kernel
theorem dX4_across_4 : decode cX4_across 4 = .ok (.invokevirtual 87, 3) := by decide +kernel
theorem dX4_across_7 : decode cX4_across 7 = .ok (.aload_n 0, 1) := by decide +kernel
theorem dX4_across_8 : decode cX4_across 8 = .ok (.iload_n 1, 1) := by decide +kernel
theorem dX4_across_9 : decode cX4_across 9 = .ok (.iload_n 2, 1) := by decide +kernel
theorem dX4_across_10 : decode cX4_across 10 = .ok (.iconst 2, 1) := by decide +kernel
theorem dX4_across_11 : decode cX4_across 11 = .ok (.invokevirtual 87, 3) := by decide +kernel
theorem dX4_across_14 : decode cX4_across 14 = .ok (.isub, 1) := by decide +kernel
theorem dX4_across_15 : decode cX4_across 15 = .ok (.ireturn, 1) := by decide +kernel
theorem dX4_along_0 : decode cX4_along 0 = .ok (.aload_n 0, 1) := by decide +kernel
theorem dX4_along_1 : decode cX4_along 1 = .ok (.iload_n 1, 1) := by decide +kernel
theorem dX4_along_2 : decode cX4_along 2 = .ok (.iload_n 2, 1) := by decide +kernel
theorem dX4_along_3 : decode cX4_along 3 = .ok (.iconst 1, 1) := by decide +kernel
theorem dX4_along_4 : decode cX4_along 4 = .ok (.invokevirtual 87, 3) := by decide +kernel
theorem dX4_along_7 : decode cX4_along 7 = .ok (.aload_n 0, 1) := by decide +kernel
theorem dX4_along_8 : decode cX4_along 8 = .ok (.iload_n 1, 1) := by decide +kernel
theorem dX4_along_9 : decode cX4_along 9 = .ok (.iload_n 2, 1) := by decide +kernel
theorem dX4_along_10 : decode cX4_along 10 = .ok (.iconst 3, 1) := by decide +kernel
theorem dX4_along_11 : decode cX4_along 11 = .ok (.invokevirtual 87, 3) := by decide +kernel
theorem dX4_along_14 : decode cX4_along 14 = .ok (.isub, 1) := by decide +kernel
theorem dX4_along_15 : decode cX4_along 15 = .ok (.ireturn, 1) := by decide +kernel
theorem dX4_strengthOf_0 : decode cX4_strengthOf 0 = .ok (.aload_n 0, 1) := by decide +kernel
theorem dX4_strengthOf_1 : decode cX4_strengthOf 1 = .ok (.iload_n 1, 1) := by decide +kernel
theorem dX4_strengthOf_2 : decode cX4_strengthOf 2 = .ok (.iload_n 2, 1) := by decide +kernel
theorem dX4_strengthOf_3 : decode cX4_strengthOf 3 = .ok (.invokevirtual 91, 3) := by decide +kernel
theorem dX4_strengthOf_6 : decode cX4_strengthOf 6 = .ok (.aload_n 0, 1) := by decide +kernel
theorem dX4_strengthOf_7 : decode cX4_strengthOf 7 = .ok (.iload_n 1, 1) := by decide +kernel
theorem dX4_strengthOf_8 : decode cX4_strengthOf 8 = .ok (.iload_n 2, 1) := by decide +kernel
theorem dX4_strengthOf_9 : decode cX4_strengthOf 9 = .ok (.invokevirtual 94, 3) := by decide +kernel
theorem dX4_strengthOf_12 : decode cX4_strengthOf 12 = .ok (.invokestatic 97, 3) := by decide +kernel
theorem dX4_strengthOf_15 : decode cX4_strengthOf 15 = .ok (.freturn, 1) := by decide +kernel
theorem dX4_brightness_0 : decode cX4_brightness 0 = .ok (.aload_n 0, 1) := by decide +kernel
theorem dX4_brightness_1 : decode cX4_brightness 1 = .ok (.iload_n 1, 1) := by decide +kernel
theorem dX4_brightness_2 : decode cX4_brightness 2 = .ok (.iconst 0, 1) := by decide +kernel
theorem dX4_brightness_3 : decode cX4_brightness 3 = .ok (.invokevirtual 103, 3) := by decide +kernel
theorem dX4_brightness_6 : decode cX4_brightness 6 = .ok (.aload_n 0, 1) := by decide +kernel
theorem dX4_brightness_7 : decode cX4_brightness 7 = .ok (.iload_n 1, 1) := by decide +kernel
theorem dX4_brightness_8 : decode cX4_brightness 8 = .ok (.iconst 1, 1) := by decide +kernel
theorem dX4_brightness_9 : decode cX4_brightness 9 = .ok (.invokevirtual 103, 3) := by decide +kernel
theorem dX4_brightness_12 : decode cX4_brightness 12 = .ok (.fadd, 1) := by decide +kernel
theorem dX4_brightness_13 : decode cX4_brightness 13 = .ok (.aload_n 0, 1) := by decide +kernel
theorem dX4_brightness_14 : decode cX4_brightness 14 = .ok (.iload_n 1, 1) := by decide +kernel
theorem dX4_brightness_15 : decode cX4_brightness 15 = .ok (.iconst 2, 1) := by decide +kernel
theorem dX4_brightness_16 : decode cX4_brightness 16 = .ok (.invokevirtual 103, 3) := by decide +kernel
theorem dX4_brightness_19 : decode cX4_brightness 19 = .ok (.fadd, 1) := by decide +kernel
theorem dX4_brightness_20 : decode cX4_brightness 20 = .ok (.freturn, 1) := by decide +kernel
theorem dX4_isCell_0 : decode cX4_isCell 0 = .ok (.iload_n 0, 1) := by decide +kernel
theorem dX4_isCell_1 : decode cX4_isCell 1 = .ok (.iconst 0, 1) := by decide +kernel
theorem dX4_isCell_2 : decode cX4_isCell 2 = .ok (.bipush 31, 2) := by decide +kernel
theorem dX4_isCell_4 : decode cX4_isCell 4 = .ok (.invokestatic 40, 3) := by decide +kernel
theorem dX4_isCell_7 : decode cX4_isCell 7 = .ok (.ireturn, 1) := by decide +kernel
