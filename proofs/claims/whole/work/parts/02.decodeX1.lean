theorem dX1_init_0 : decode cX1_init 0 = .ok (.aload_n 0, 1) := by decide +kernel
theorem dX1_init_1 : decode cX1_init 1 = .ok (.invokespecial 3, 3) := by decide +kernel
theorem dX1_init_4 : decode cX1_init 4 = .ok (.aload_n 0, 1) := by decide +kernel
theorem dX1_init_5 : decode cX1_init 5 = .ok (.sipush 150, 3) := by decide +kernel
theorem dX1_init_8 : decode cX1_init 8 = .ok (.newarray .int, 2) := by decide +kernel
theorem dX1_init_10 : decode cX1_init 10 = .ok (.putfield 9, 3) := by decide +kernel
theorem dX1_init_13 : decode cX1_init 13 = .ok (.aload_n 0, 1) := by decide +kernel
theorem dX1_init_14 : decode cX1_init 14 = .ok (.iconst 0, 1) := by decide +kernel
theorem dX1_init_15 : decode cX1_init 15 = .ok (.putfield 15, 3) := by decide +kernel
theorem dX1_init_18 : decode cX1_init 18 = .ok (.aload_n 0, 1) := by decide +kernel
theorem dX1_init_19 : decode cX1_init 19 = .ok (.sipush 150, 3) := by decide +kernel
theorem dX1_init_22 : decode cX1_init 22 = .ok (.newarray .int, 2) := by decide +kernel
theorem dX1_init_24 : decode cX1_init 24 = .ok (.putfield 19, 3) := by decide +kernel
theorem dX1_init_27 : decode cX1_init 27 = .ok (.aload_n 0, 1) := by decide +kernel
theorem dX1_init_28 : decode cX1_init 28 = .ok (.iconst 0, 1) := by decide +kernel
theorem dX1_init_29 : decode cX1_init 29 = .ok (.putfield 22, 3) := by decide +kernel
theorem dX1_init_32 : decode cX1_init 32 = .ok (.return_, 1) := by decide +kernel
theorem dX1_append_0 : decode cX1_append 0 = .ok (.aload_n 0, 1) := by decide +kernel
theorem dX1_append_1 : decode cX1_append 1 = .ok (.getfield 15, 3) := by decide +kernel
theorem dX1_append_4 : decode cX1_append 4 = .ok (.ifCond .lt 13, 3) := by decide +kernel
theorem dX1_append_7 : decode cX1_append 7 = .ok (.aload_n 0, 1) := by decide +kernel
theorem dX1_append_8 : decode cX1_append 8 = .ok (.getfield 15, 3) := by decide +kernel
theorem dX1_append_11 : decode cX1_append 11 = .ok (.sipush 150, 3) := by decide +kernel
theorem dX1_append_14 : decode cX1_append 14 = .ok (.if_icmp .lt 5, 3) := by decide +kernel
theorem dX1_append_17 : decode cX1_append 17 = .ok (.iconst 0, 1) := by decide +kernel
theorem dX1_append_18 : decode cX1_append 18 = .ok (.ireturn, 1) := by decide +kernel
theorem dX1_append_19 : decode cX1_append 19 = .ok (.aload_n 0, 1) := by decide +kernel
theorem dX1_append_20 : decode cX1_append 20 = .ok (.getfield 9, 3) := by decide +kernel
theorem dX1_append_23 : decode cX1_append 23 = .ok (.aload_n 0, 1) := by decide +kernel
theorem dX1_append_24 : decode cX1_append 24 = .ok (.getfield 15, 3) := by decide +kernel
theorem dX1_append_27 : decode cX1_append 27 = .ok (.iload_n 1, 1) := by decide +kernel
theorem dX1_append_28 : decode cX1_append 28 = .ok (.iastore, 1) := by decide +kernel
theorem dX1_append_29 : decode cX1_append 29 = .ok (.aload_n 0, 1) := by decide +kernel
theorem dX1_append_30 : decode cX1_append 30 = .ok (.dup, 1) := by decide +kernel
theorem dX1_append_31 : decode cX1_append 31 = .ok (.getfield 15, 3) := by decide +kernel
theorem dX1_append_34 : decode cX1_append 34 = .ok (.iconst 1, 1) := by decide +kernel
theorem dX1_append_35 : decode cX1_append 35 = .ok (.iadd, 1) := by decide +kernel
theorem dX1_append_36 : decode cX1_append 36 = .ok (.putfield 15, 3) := by decide +kernel
theorem dX1_append_39 : decode cX1_append 39 = .ok (.iconst 1, 1) := by decide +kernel
theorem dX1_append_40 : decode cX1_append 40 = .ok (.ireturn, 1) := by decide +kernel
theorem dX1_readAll_0 : decode cX1_readAll 0 = .ok (.aload_n 0, 1) := by decide +kernel
theorem dX1_readAll_1 : decode cX1_readAll 1 = .ok (.iconst 0, 1) := by decide +kernel
theorem dX1_readAll_2 : decode cX1_readAll 2 = .ok (.putfield 25, 3) := by decide +kernel
theorem dX1_readAll_5 : decode cX1_readAll 5 = .ok (.aload_n 0, 1) := by decide +kernel
theorem dX1_readAll_6 : decode cX1_readAll 6 = .ok (.iconst 0, 1) := by decide +kernel
theorem dX1_readAll_7 : decode cX1_readAll 7 = .ok (.putfield 22, 3) := by decide +kernel
theorem dX1_readAll_10 : decode cX1_readAll 10 = .ok (.aload_n 0, 1) := by decide +kernel
theorem dX1_readAll_11 : decode cX1_readAll 11 = .ok (.iconst (-1), 1) := by decide +kernel
theorem dX1_readAll_12 : decode cX1_readAll 12 = .ok (.putfield 28, 3) := by decide +kernel
theorem dX1_readAll_15 : decode cX1_readAll 15 = .ok (.aload_n 0, 1) := by decide +kernel
theorem dX1_readAll_16 : decode cX1_readAll 16 = .ok (.iconst 0, 1) := by decide +kernel
theorem dX1_readAll_17 : decode cX1_readAll 17 = .ok (.putfield 31, 3) := by decide +kernel
theorem dX1_readAll_20 : decode cX1_readAll 20 = .ok (.iconst 0, 1) := by decide +kernel
theorem dX1_readAll_21 : decode cX1_readAll 21 = .ok (.istore_n 1, 1) := by decide +kernel
theorem dX1_readAll_22 : decode cX1_readAll 22 = .ok (.iload_n 1, 1) := by decide +kernel
theorem dX1_readAll_23 : decode cX1_readAll 23 = .ok (.aload_n 0, 1) := by decide +kernel
theorem dX1_readAll_24 : decode cX1_readAll 24 = .ok (.getfield 15, 3) := by decide +kernel
theorem dX1_readAll_27 : decode cX1_readAll 27 = .ok (.if_icmp .ge 31, 3) := by decide +kernel
theorem dX1_readAll_30 : decode cX1_readAll 30 = .ok (.iload_n 1, 1) := by decide +kernel
theorem dX1_readAll_31 : decode cX1_readAll 31 = .ok (.sipush 150, 3) := by decide +kernel
theorem dX1_readAll_34 : decode cX1_readAll 34 = .ok (.if_icmp .ge 24, 3) := by decide +kernel
theorem dX1_readAll_37 : decode cX1_readAll 37 = .ok (.aload_n 0, 1) := by decide +kernel
theorem dX1_readAll_38 : decode cX1_readAll 38 = .ok (.aload_n 0, 1) := by decide +kernel
theorem dX1_readAll_39 : decode cX1_readAll 39 = .ok (.getfield 9, 3) := by decide +kernel
theorem dX1_readAll_42 : decode cX1_readAll 42 = .ok (.iload_n 1, 1) := by decide +kernel
theorem dX1_readAll_43 : decode cX1_readAll 43 = .ok (.iaload, 1) := by decide +kernel
theorem dX1_readAll_44 : decode cX1_readAll 44 = .ok (.invokevirtual 34, 3) := by decide +kernel
theorem dX1_readAll_47 : decode cX1_readAll 47 = .ok (.ifCond .ne 5, 3) := by decide +kernel
theorem dX1_readAll_50 : decode cX1_readAll 50 = .ok (.iload_n 1, 1) := by decide +kernel
theorem dX1_readAll_51 : decode cX1_readAll 51 = .ok (.ireturn, 1) := by decide +kernel
theorem dX1_readAll_52 : decode cX1_readAll 52 = .ok (.iinc 1 1, 3) := by decide +kernel
theorem dX1_readAll_55 : decode cX1_readAll 55 = .ok (.goto (-33), 3) := by decide +kernel
theorem dX1_readAll_58 : decode cX1_readAll 58 = .ok (.aload_n 0, 1) := by decide +kernel
theorem dX1_readAll_59 : decode cX1_readAll 59 = .ok (.getfield 28, 3) := by decide +kernel
theorem dX1_readAll_62 : decode cX1_readAll 62 = .ok (.iconst (-1), 1) := by decide +kernel
theorem dX1_readAll_63 : decode cX1_readAll 63 = .ok (.if_icmp .ne 14, 3) := by decide +kernel
theorem dX1_readAll_66 : decode cX1_readAll 66 = .ok (.aload_n 0, 1) := by decide +kernel
theorem dX1_readAll_67 : decode cX1_readAll 67 = .ok (.getfield 22, 3) := by decide +kernel
theorem dX1_readAll_70 : decode cX1_readAll 70 = .ok (.ifCond .le 7, 3) := by decide +kernel
theorem dX1_readAll_73 : decode cX1_readAll 73 = .ok (.iconst (-1), 1) := by decide +kernel
theorem dX1_readAll_74 : decode cX1_readAll 74 = .ok (.goto 7, 3) := by decide +kernel
theorem dX1_readAll_77 : decode cX1_readAll 77 = .ok (.aload_n 0, 1) := by decide +kernel
theorem dX1_readAll_78 : decode cX1_readAll 78 = .ok (.getfield 15, 3) := by decide +kernel
theorem dX1_readAll_81 : decode cX1_readAll 81 = .ok (.ireturn, 1) := by decide +kernel
theorem dX1_item_0 : decode cX1_item 0 = .ok (.iload_n 1, 1) := by decide +kernel
theorem dX1_item_1 : decode cX1_item 1 = .ok (.iconst 0, 1) := by decide +kernel
theorem dX1_item_2 : decode cX1_item 2 = .ok (.aload_n 0, 1) := by decide +kernel
theorem dX1_item_3 : decode cX1_item 3 = .ok (.getfield 25, 3) := by decide +kernel
theorem dX1_item_6 : decode cX1_item 6 = .ok (.iconst 1, 1) := by decide +kernel
theorem dX1_item_7 : decode cX1_item 7 = .ok (.isub, 1) := by decide +kernel
theorem dX1_item_8 : decode cX1_item 8 = .ok (.invokestatic 38, 3) := by decide +kernel
theorem dX1_item_11 : decode cX1_item 11 = .ok (.ifCond .eq 12, 3) := by decide +kernel
theorem dX1_item_14 : decode cX1_item 14 = .ok (.aload_n 0, 1) := by decide +kernel
theorem dX1_item_15 : decode cX1_item 15 = .ok (.getfield 19, 3) := by decide +kernel
theorem dX1_item_18 : decode cX1_item 18 = .ok (.iload_n 1, 1) := by decide +kernel
theorem dX1_item_19 : decode cX1_item 19 = .ok (.iaload, 1) := by decide +kernel
theorem dX1_item_20 : decode cX1_item 20 = .ok (.goto 4, 3) := by decide +kernel
theorem dX1_item_23 : decode cX1_item 23 = .ok (.iconst (-1), 1) := by decide +kernel
theorem dX1_item_24 : decode cX1_item 24 = .ok (.ireturn, 1) := by decide +kernel
theorem dX1_takes_0 : decode cX1_takes 0 = .ok (.iload_n 1, 1) := by decide +kernel
theorem dX1_takes_1 : decode cX1_takes 1 = .ok (.bipush 48, 2) := by decide +kernel
theorem dX1_takes_3 : decode cX1_takes 3 = .ok (.if_icmp .lt 18, 3) := by decide +kernel
theorem dX1_takes_6 : decode cX1_takes 6 = .ok (.iload_n 1, 1) := by decide +kernel
theorem dX1_takes_7 : decode cX1_takes 7 = .ok (.bipush 57, 2) := by decide +kernel
theorem dX1_takes_9 : decode cX1_takes 9 = .ok (.if_icmp .gt 12, 3) := by decide +kernel
theorem dX1_takes_12 : decode cX1_takes 12 = .ok (.aload_n 0, 1) := by decide +kernel
theorem dX1_takes_13 : decode cX1_takes 13 = .ok (.iload_n 1, 1) := by decide +kernel
theorem dX1_takes_14 : decode cX1_takes 14 = .ok (.bipush 48, 2) := by decide +kernel
theorem dX1_takes_16 : decode cX1_takes 16 = .ok (.isub, 1) := by decide +kernel
theorem dX1_takes_17 : decode cX1_takes 17 = .ok (.invokevirtual 42, 3) := by decide +kernel
theorem dX1_takes_20 : decode cX1_takes 20 = .ok (.ireturn, 1) := by decide +kernel
theorem dX1_takes_21 : decode cX1_takes 21 = .ok (.aload_n 0, 1) := by decide +kernel
theorem dX1_takes_22 : decode cX1_takes 22 = .ok (.invokevirtual 45, 3) := by decide +kernel
theorem dX1_takes_25 : decode cX1_takes 25 = .ok (.iload_n 1, 1) := by decide +kernel
theorem dX1_takes_26 : decode cX1_takes 26 = .ok (.bipush 32, 2) := by decide +kernel
theorem dX1_takes_28 : decode cX1_takes 28 = .ok (.if_icmp .ne 5, 3) := by decide +kernel
theorem dX1_takes_31 : decode cX1_takes 31 = .ok (.iconst 1, 1) := by decide +kernel
theorem dX1_takes_32 : decode cX1_takes 32 = .ok (.ireturn, 1) := by decide +kernel
theorem dX1_takes_33 : decode cX1_takes 33 = .ok (.aload_n 0, 1) := by decide +kernel
theorem dX1_takes_34 : decode cX1_takes 34 = .ok (.getfield 28, 3) := by decide +kernel
theorem dX1_takes_37 : decode cX1_takes 37 = .ok (.iconst (-1), 1) := by decide +kernel
theorem dX1_takes_38 : decode cX1_takes 38 = .ok (.if_icmp .ne 30, 3) := by decide +kernel
theorem dX1_takes_41 : decode cX1_takes 41 = .ok (.aload_n 0, 1) := by decide +kernel
theorem dX1_takes_42 : decode cX1_takes 42 = .ok (.iload_n 1, 1) := by decide +kernel
theorem dX1_takes_43 : decode cX1_takes 43 = .ok (.invokestatic 48, 3) := by decide +kernel
theorem dX1_takes_46 : decode cX1_takes 46 = .ok (.putfield 28, 3) := by decide +kernel
theorem dX1_takes_49 : decode cX1_takes 49 = .ok (.aload_n 0, 1) := by decide +kernel
theorem dX1_takes_50 : decode cX1_takes 50 = .ok (.iload_n 1, 1) := by decide +kernel
theorem dX1_takes_51 : decode cX1_takes 51 = .ok (.invokevirtual 52, 3) := by decide +kernel
theorem dX1_takes_54 : decode cX1_takes 54 = .ok (.aload_n 0, 1) := by decide +kernel
theorem dX1_takes_55 : decode cX1_takes 55 = .ok (.getfield 28, 3) := by decide +kernel
theorem dX1_takes_58 : decode cX1_takes 58 = .ok (.iconst (-1), 1) := by decide +kernel
theorem dX1_takes_59 : decode cX1_takes 59 = .ok (.if_icmp .eq 7, 3) := by decide +kernel
theorem dX1_takes_62 : decode cX1_takes 62 = .ok (.iconst 1, 1) := by decide +kernel
theorem dX1_takes_63 : decode cX1_takes 63 = .ok (.goto 4, 3) := by decide +kernel
theorem dX1_takes_66 : decode cX1_takes 66 = .ok (.iconst 0, 1) := by decide +kernel
theorem dX1_takes_67 : decode cX1_takes 67 = .ok (.ireturn, 1) := by decide +kernel
theorem dX1_takes_68 : decode cX1_takes 68 = .ok (.iload_n 1, 1) := by decide +kernel
theorem dX1_takes_69 : decode cX1_takes 69 = .ok (.bipush 59, 2) := by decide +kernel
theorem dX1_takes_71 : decode cX1_takes 71 = .ok (.if_icmp .ne 10, 3) := by decide +kernel
theorem dX1_takes_74 : decode cX1_takes 74 = .ok (.aload_n 0, 1) := by decide +kernel
theorem dX1_takes_75 : decode cX1_takes 75 = .ok (.getfield 28, 3) := by decide +kernel
theorem dX1_takes_78 : decode cX1_takes 78 = .ok (.ifCond .le 5, 3) := by decide +kernel
theorem dX1_takes_81 : decode cX1_takes 81 = .ok (.iconst 0, 1) := by decide +kernel
theorem dX1_takes_82 : decode cX1_takes 82 = .ok (.ireturn, 1) := by decide +kernel
theorem dX1_takes_83 : decode cX1_takes 83 = .ok (.aload_n 0, 1) := by decide +kernel
theorem dX1_takes_84 : decode cX1_takes 84 = .ok (.iconst (-1), 1) := by decide +kernel
theorem dX1_takes_85 : decode cX1_takes 85 = .ok (.putfield 28, 3) := by decide +kernel
theorem dX1_takes_88 : decode cX1_takes 88 = .ok (.aload_n 0, 1) := by decide +kernel
theorem dX1_takes_89 : decode cX1_takes 89 = .ok (.dup, 1) := by decide +kernel
theorem dX1_takes_90 : decode cX1_takes 90 = .ok (.getfield 22, 3) := by decide +kernel
theorem dX1_takes_93 : decode cX1_takes 93 = .ok (.iconst 1, 1) := by decide +kernel
theorem dX1_takes_94 : decode cX1_takes 94 = .ok (.iadd, 1) := by decide +kernel
theorem dX1_takes_95 : decode cX1_takes 95 = .ok (.putfield 22, 3) := by decide +kernel
theorem dX1_takes_98 : decode cX1_takes 98 = .ok (.iconst 1, 1) := by decide +kernel
theorem dX1_takes_99 : decode cX1_takes 99 = .ok (.ireturn, 1) := by decide +kernel
theorem dX1_takesFigure_0 : decode cX1_takesFigure 0 = .ok (.aload_n 0, 1) := by decide +kernel
theorem dX1_takesFigure_1 : decode cX1_takesFigure 1 = .ok (.getfield 31, 3) := by decide +kernel
theorem dX1_takesFigure_4 : decode cX1_takesFigure 4 = .ok (.ifCond .ne 28, 3) := by decide +kernel
theorem dX1_takesFigure_7 : decode cX1_takesFigure 7 = .ok (.aload_n 0, 1) := by decide +kernel
theorem dX1_takesFigure_8 : decode cX1_takesFigure 8 = .ok (.getfield 28, 3) := by decide +kernel
theorem dX1_takesFigure_11 : decode cX1_takesFigure 11 = .ok (.iconst 1, 1) := by decide +kernel
theorem dX1_takesFigure_12 : decode cX1_takesFigure 12 = .ok (.if_icmp .ge 5, 3) := by decide +kernel
theorem dX1_takesFigure_15 : decode cX1_takesFigure 15 = .ok (.iconst 0, 1) := by decide +kernel
theorem dX1_takesFigure_16 : decode cX1_takesFigure 16 = .ok (.ireturn, 1) := by decide +kernel
theorem dX1_takesFigure_17 : decode cX1_takesFigure 17 = .ok (.aload_n 0, 1) := by decide +kernel
theorem dX1_takesFigure_18 : decode cX1_takesFigure 18 = .ok (.dup, 1) := by decide +kernel
theorem dX1_takesFigure_19 : decode cX1_takesFigure 19 = .ok (.getfield 28, 3) := by decide +kernel
theorem dX1_takesFigure_22 : decode cX1_takesFigure 22 = .ok (.iconst 1, 1) := by decide +kernel
theorem dX1_takesFigure_23 : decode cX1_takesFigure 23 = .ok (.isub, 1) := by decide +kernel
theorem dX1_takesFigure_24 : decode cX1_takesFigure 24 = .ok (.putfield 28, 3) := by decide +kernel
theorem dX1_takesFigure_27 : decode cX1_takesFigure 27 = .ok (.aload_n 0, 1) := by decide +kernel
theorem dX1_takesFigure_28 : decode cX1_takesFigure 28 = .ok (.iconst 0, 1) := by decide +kernel
theorem dX1_takesFigure_29 : decode cX1_takesFigure 29 = .ok (.putfield 56, 3) := by decide +kernel
theorem dX1_takesFigure_32 : decode cX1_takesFigure 32 = .ok (.aload_n 0, 1) := by decide +kernel
theorem dX1_takesFigure_33 : decode cX1_takesFigure 33 = .ok (.getfield 31, 3) := by decide +kernel
theorem dX1_takesFigure_36 : decode cX1_takesFigure 36 = .ok (.iconst 4, 1) := by decide +kernel
theorem dX1_takesFigure_37 : decode cX1_takesFigure 37 = .ok (.if_icmp .lt 5, 3) := by decide +kernel
theorem dX1_takesFigure_40 : decode cX1_takesFigure 40 = .ok (.iconst 0, 1) := by decide +kernel
theorem dX1_takesFigure_41 : decode cX1_takesFigure 41 = .ok (.ireturn, 1) := by decide +kernel
theorem dX1_takesFigure_42 : decode cX1_takesFigure 42 = .ok (.aload_n 0, 1) := by decide +kernel
theorem dX1_takesFigure_43 : decode cX1_takesFigure 43 = .ok (.aload_n 0, 1) := by decide +kernel
theorem dX1_takesFigure_44 : decode cX1_takesFigure 44 = .ok (.getfield 56, 3) := by decide +kernel
theorem dX1_takesFigure_47 : decode cX1_takesFigure 47 = .ok (.bipush 10, 2) := by decide +kernel
theorem dX1_takesFigure_49 : decode cX1_takesFigure 49 = .ok (.imul, 1) := by decide +kernel
theorem dX1_takesFigure_50 : decode cX1_takesFigure 50 = .ok (.iload_n 1, 1) := by decide +kernel
theorem dX1_takesFigure_51 : decode cX1_takesFigure 51 = .ok (.iadd, 1) := by decide +kernel
theorem dX1_takesFigure_52 : decode cX1_takesFigure 52 = .ok (.putfield 56, 3) := by decide +kernel
theorem dX1_takesFigure_55 : decode cX1_takesFigure 55 = .ok (.aload_n 0, 1) := by decide +kernel
theorem dX1_takesFigure_56 : decode cX1_takesFigure 56 = .ok (.dup, 1) := by decide +kernel
theorem dX1_takesFigure_57 : decode cX1_takesFigure 57 = .ok (.getfield 31, 3) := by decide +kernel
theorem dX1_takesFigure_60 : decode cX1_takesFigure 60 = .ok (.iconst 1, 1) := by decide +kernel
theorem dX1_takesFigure_61 : decode cX1_takesFigure 61 = .ok (.iadd, 1) := by decide +kernel
theorem dX1_takesFigure_62 : decode cX1_takesFigure 62 = .ok (.putfield 31, 3) := by decide +kernel
theorem dX1_takesFigure_65 : decode cX1_takesFigure 65 = .ok (.iconst 1, 1) := by decide +kernel
theorem dX1_takesFigure_66 : decode cX1_takesFigure 66 = .ok (.ireturn, 1) := by decide +kernel
theorem dX1_endNumber_0 : decode cX1_endNumber 0 = .ok (.aload_n 0, 1) := by decide +kernel
theorem dX1_endNumber_1 : decode cX1_endNumber 1 = .ok (.getfield 31, 3) := by decide +kernel
theorem dX1_endNumber_4 : decode cX1_endNumber 4 = .ok (.ifCond .le 16, 3) := by decide +kernel
theorem dX1_endNumber_7 : decode cX1_endNumber 7 = .ok (.aload_n 0, 1) := by decide +kernel
theorem dX1_endNumber_8 : decode cX1_endNumber 8 = .ok (.aload_n 0, 1) := by decide +kernel
theorem dX1_endNumber_9 : decode cX1_endNumber 9 = .ok (.getfield 56, 3) := by decide +kernel
theorem dX1_endNumber_12 : decode cX1_endNumber 12 = .ok (.invokevirtual 52, 3) := by decide +kernel
theorem dX1_endNumber_15 : decode cX1_endNumber 15 = .ok (.aload_n 0, 1) := by decide +kernel
theorem dX1_endNumber_16 : decode cX1_endNumber 16 = .ok (.iconst 0, 1) := by decide +kernel
theorem dX1_endNumber_17 : decode cX1_endNumber 17 = .ok (.putfield 31, 3) := by decide +kernel
theorem dX1_endNumber_20 : decode cX1_endNumber 20 = .ok (.return_, 1) := by decide +kernel
theorem dX1_keep_0 : decode cX1_keep 0 = .ok (.aload_n 0, 1) := by decide +kernel
theorem dX1_keep_1 : decode cX1_keep 1 = .ok (.getfield 25, 3) := by decide +kernel
theorem dX1_keep_4 : decode cX1_keep 4 = .ok (.iconst 0, 1) := by decide +kernel
theorem dX1_keep_5 : decode cX1_keep 5 = .ok (.sipush 149, 3) := by decide +kernel
theorem dX1_keep_8 : decode cX1_keep 8 = .ok (.invokestatic 38, 3) := by decide +kernel
theorem dX1_keep_11 : decode cX1_keep 11 = .ok (.ifCond .eq 23, 3) := by decide +kernel
theorem dX1_keep_14 : decode cX1_keep 14 = .ok (.aload_n 0, 1) := by decide +kernel
theorem dX1_keep_15 : decode cX1_keep 15 = .ok (.getfield 19, 3) := by decide +kernel
theorem dX1_keep_18 : decode cX1_keep 18 = .ok (.aload_n 0, 1) := by decide +kernel
theorem dX1_keep_19 : decode cX1_keep 19 = .ok (.getfield 25, 3) := by decide +kernel
theorem dX1_keep_22 : decode cX1_keep 22 = .ok (.iload_n 1, 1) := by decide +kernel
theorem dX1_keep_23 : decode cX1_keep 23 = .ok (.iastore, 1) := by decide +kernel
theorem dX1_keep_24 : decode cX1_keep 24 = .ok (.aload_n 0, 1) := by decide +kernel
theorem dX1_keep_25 : decode cX1_keep 25 = .ok (.dup, 1) := by decide +kernel
theorem dX1_keep_26 : decode cX1_keep 26 = .ok (.getfield 25, 3) := by decide +kernel
theorem dX1_keep_29 : decode cX1_keep 29 = .ok (.iconst 1, 1) := by decide +kernel
theorem dX1_keep_30 : decode cX1_keep 30 = .ok (.iadd, 1) := by decide +kernel
theorem dX1_keep_31 : decode cX1_keep 31 = .ok (.putfield 25, 3) := by decide +kernel
theorem dX1_keep_34 : decode cX1_keep 34 = .ok (.return_, 1) := by decide +kernel
theorem dX1_numbersOf_0 : decode cX1_numbersOf 0 = .ok (.iload_n 0, 1) := by decide +kernel
theorem dX1_numbersOf_1 : decode cX1_numbersOf 1 = .ok (.tableswitch 103 99 118 #[101, 103, 97, 103, 95, 103, 103, 103, 103, 99, 103, 103, 103, 103, 103, 103, 95, 103, 103, 95], 95) := by decide +kernel
theorem dX1_numbersOf_96 : decode cX1_numbersOf 96 = .ok (.iconst 2, 1) := by decide +kernel
theorem dX1_numbersOf_97 : decode cX1_numbersOf 97 = .ok (.ireturn, 1) := by decide +kernel
theorem dX1_numbersOf_98 : decode cX1_numbersOf 98 = .ok (.iconst 5, 1) := by decide +kernel
theorem dX1_numbersOf_99 : decode cX1_numbersOf 99 = .ok (.ireturn, 1) := by decide +kernel
theorem dX1_numbersOf_100 : decode cX1_numbersOf 100 = .ok (.iconst 4, 1) := by decide +kernel
theorem dX1_numbersOf_101 : decode cX1_numbersOf 101 = .ok (.ireturn, 1) := by decide +kernel
theorem dX1_numbersOf_102 : decode cX1_numbersOf 102 = .ok (.iconst 3, 1) := by decide +kernel
theorem dX1_numbersOf_103 : decode cX1_numbersOf 103 = .ok (.ireturn, 1) := by decide +kernel
theorem dX1_numbersOf_104 : decode cX1_numbersOf 104 = .ok (.iconst (-1), 1) := by decide +kernel
theorem dX1_numbersOf_105 : decode cX1_numbersOf 105 = .ok (.ireturn, 1) := by decide +kernel
