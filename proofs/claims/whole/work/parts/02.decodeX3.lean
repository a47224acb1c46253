theorem dX3_size_0 : decode cX3_size 0 = .ok (.iload_n 0, 1) := by decide +kernel
theorem dX3_size_1 : decode cX3_size 1 = .ok (.invokestatic 9, 3) := by decide +kernel
theorem dX3_size_4 : decode cX3_size 4 = .ok (.iload_n 1, 1) := by decide +kernel
theorem dX3_size_5 : decode cX3_size 5 = .ok (.invokestatic 9, 3) := by decide +kernel
theorem dX3_size_8 : decode cX3_size 8 = .ok (.iadd, 1) := by decide +kernel
theorem dX3_size_9 : decode cX3_size 9 = .ok (.ireturn, 1) := by decide +kernel
theorem dX3_strength_0 : decode cX3_strength 0 = .ok (.iload_n 0, 1) := by decide +kernel
theorem dX3_strength_1 : decode cX3_strength 1 = .ok (.iload_n 1, 1) := by decide +kernel
theorem dX3_strength_2 : decode cX3_strength 2 = .ok (.invokestatic 15, 3) := by decide +kernel
theorem dX3_strength_5 : decode cX3_strength 5 = .ok (.i2f, 1) := by decide +kernel
theorem dX3_strength_6 : decode cX3_strength 6 = .ok (.fconst 2, 1) := by decide +kernel
theorem dX3_strength_7 : decode cX3_strength 7 = .ok (.fdiv, 1) := by decide +kernel
theorem dX3_strength_8 : decode cX3_strength 8 = .ok (.freturn, 1) := by decide +kernel
theorem dX3_phase_0 : decode cX3_phase 0 = .ok (.iload_n 0, 1) := by decide +kernel
theorem dX3_phase_1 : decode cX3_phase 1 = .ok (.invokestatic 9, 3) := by decide +kernel
theorem dX3_phase_4 : decode cX3_phase 4 = .ok (.iload_n 1, 1) := by decide +kernel
theorem dX3_phase_5 : decode cX3_phase 5 = .ok (.invokestatic 9, 3) := by decide +kernel
theorem dX3_phase_8 : decode cX3_phase 8 = .ok (.iadd, 1) := by decide +kernel
theorem dX3_phase_9 : decode cX3_phase 9 = .ok (.istore_n 2, 1) := by decide +kernel
theorem dX3_phase_10 : decode cX3_phase 10 = .ok (.iload_n 2, 1) := by decide +kernel
theorem dX3_phase_11 : decode cX3_phase 11 = .ok (.ifCond .ne 6, 3) := by decide +kernel
theorem dX3_phase_14 : decode cX3_phase 14 = .ok (.ldc 21, 2) := by decide +kernel
theorem dX3_phase_16 : decode cX3_phase 16 = .ok (.freturn, 1) := by decide +kernel
theorem dX3_phase_17 : decode cX3_phase 17 = .ok (.iload_n 1, 1) := by decide +kernel
theorem dX3_phase_18 : decode cX3_phase 18 = .ok (.i2f, 1) := by decide +kernel
theorem dX3_phase_19 : decode cX3_phase 19 = .ok (.iload_n 2, 1) := by decide +kernel
theorem dX3_phase_20 : decode cX3_phase 20 = .ok (.i2f, 1) := by decide +kernel
theorem dX3_phase_21 : decode cX3_phase 21 = .ok (.fdiv, 1) := by decide +kernel
theorem dX3_phase_22 : decode cX3_phase 22 = .ok (.fstore_n 3, 1) := by decide +kernel
theorem dX3_phase_23 : decode cX3_phase 23 = .ok (.iload_n 0, 1) := by decide +kernel
theorem dX3_phase_24 : decode cX3_phase 24 = .ok (.ifCond .ge 7, 3) := by decide +kernel
theorem dX3_phase_27 : decode cX3_phase 27 = .ok (.fconst 2, 1) := by decide +kernel
theorem dX3_phase_28 : decode cX3_phase 28 = .ok (.fload_n 3, 1) := by decide +kernel
theorem dX3_phase_29 : decode cX3_phase 29 = .ok (.fsub, 1) := by decide +kernel
theorem dX3_phase_30 : decode cX3_phase 30 = .ok (.freturn, 1) := by decide +kernel
theorem dX3_phase_31 : decode cX3_phase 31 = .ok (.iload_n 1, 1) := by decide +kernel
theorem dX3_phase_32 : decode cX3_phase 32 = .ok (.ifCond .lt 7, 3) := by decide +kernel
theorem dX3_phase_35 : decode cX3_phase 35 = .ok (.fload_n 3, 1) := by decide +kernel
theorem dX3_phase_36 : decode cX3_phase 36 = .ok (.goto 7, 3) := by decide +kernel
theorem dX3_phase_39 : decode cX3_phase 39 = .ok (.ldc 22, 2) := by decide +kernel
theorem dX3_phase_41 : decode cX3_phase 41 = .ok (.fload_n 3, 1) := by decide +kernel
theorem dX3_phase_42 : decode cX3_phase 42 = .ok (.fadd, 1) := by decide +kernel
theorem dX3_phase_43 : decode cX3_phase 43 = .ok (.freturn, 1) := by decide +kernel
theorem dX3_residue_0 : decode cX3_residue 0 = .ok (.iload_n 0, 1) := by decide +kernel
theorem dX3_residue_1 : decode cX3_residue 1 = .ok (.ifCond .ne 7, 3) := by decide +kernel
theorem dX3_residue_4 : decode cX3_residue 4 = .ok (.iload_n 1, 1) := by decide +kernel
theorem dX3_residue_5 : decode cX3_residue 5 = .ok (.ifCond .eq 8, 3) := by decide +kernel
theorem dX3_residue_8 : decode cX3_residue 8 = .ok (.iload_n 2, 1) := by decide +kernel
theorem dX3_residue_9 : decode cX3_residue 9 = .ok (.iconst 1, 1) := by decide +kernel
theorem dX3_residue_10 : decode cX3_residue 10 = .ok (.if_icmp .ge 7, 3) := by decide +kernel
theorem dX3_residue_13 : decode cX3_residue 13 = .ok (.sipush (-10001), 3) := by decide +kernel
theorem dX3_residue_16 : decode cX3_residue 16 = .ok (.ireturn, 1) := by decide +kernel
theorem dX3_residue_17 : decode cX3_residue 17 = .ok (.iload_n 0, 1) := by decide +kernel
theorem dX3_residue_18 : decode cX3_residue 18 = .ok (.iload_n 1, 1) := by decide +kernel
theorem dX3_residue_19 : decode cX3_residue 19 = .ok (.invokestatic 23, 3) := by decide +kernel
theorem dX3_residue_22 : decode cX3_residue 22 = .ok (.iload_n 2, 1) := by decide +kernel
theorem dX3_residue_23 : decode cX3_residue 23 = .ok (.i2f, 1) := by decide +kernel
theorem dX3_residue_24 : decode cX3_residue 24 = .ok (.fmul, 1) := by decide +kernel
theorem dX3_residue_25 : decode cX3_residue 25 = .ok (.ldc 22, 2) := by decide +kernel
theorem dX3_residue_27 : decode cX3_residue 27 = .ok (.fdiv, 1) := by decide +kernel
theorem dX3_residue_28 : decode cX3_residue 28 = .ok (.ldc 27, 2) := by decide +kernel
theorem dX3_residue_30 : decode cX3_residue 30 = .ok (.fadd, 1) := by decide +kernel
theorem dX3_residue_31 : decode cX3_residue 31 = .ok (.f2i, 1) := by decide +kernel
theorem dX3_residue_32 : decode cX3_residue 32 = .ok (.iload_n 2, 1) := by decide +kernel
theorem dX3_residue_33 : decode cX3_residue 33 = .ok (.irem, 1) := by decide +kernel
theorem dX3_residue_34 : decode cX3_residue 34 = .ok (.ireturn, 1) := by decide +kernel
theorem dX3_awayFrom_0 : decode cX3_awayFrom 0 = .ok (.iload_n 2, 1) := by decide +kernel
theorem dX3_awayFrom_1 : decode cX3_awayFrom 1 = .ok (.iconst 1, 1) := by decide +kernel
theorem dX3_awayFrom_2 : decode cX3_awayFrom 2 = .ok (.if_icmp .ge 5, 3) := by decide +kernel
theorem dX3_awayFrom_5 : decode cX3_awayFrom 5 = .ok (.iconst 0, 1) := by decide +kernel
theorem dX3_awayFrom_6 : decode cX3_awayFrom 6 = .ok (.ireturn, 1) := by decide +kernel
theorem dX3_awayFrom_7 : decode cX3_awayFrom 7 = .ok (.iload_n 0, 1) := by decide +kernel
theorem dX3_awayFrom_8 : decode cX3_awayFrom 8 = .ok (.iload_n 1, 1) := by decide +kernel
theorem dX3_awayFrom_9 : decode cX3_awayFrom 9 = .ok (.isub, 1) := by decide +kernel
theorem dX3_awayFrom_10 : decode cX3_awayFrom 10 = .ok (.iload_n 2, 1) := by decide +kernel
theorem dX3_awayFrom_11 : decode cX3_awayFrom 11 = .ok (.iadd, 1) := by decide +kernel
theorem dX3_awayFrom_12 : decode cX3_awayFrom 12 = .ok (.iload_n 2, 1) := by decide +kernel
theorem dX3_awayFrom_13 : decode cX3_awayFrom 13 = .ok (.irem, 1) := by decide +kernel
theorem dX3_awayFrom_14 : decode cX3_awayFrom 14 = .ok (.istore_n 3, 1) := by decide +kernel
theorem dX3_awayFrom_15 : decode cX3_awayFrom 15 = .ok (.iload_n 3, 1) := by decide +kernel
theorem dX3_awayFrom_16 : decode cX3_awayFrom 16 = .ok (.iload_n 2, 1) := by decide +kernel
theorem dX3_awayFrom_17 : decode cX3_awayFrom 17 = .ok (.iload_n 3, 1) := by decide +kernel
theorem dX3_awayFrom_18 : decode cX3_awayFrom 18 = .ok (.isub, 1) := by decide +kernel
theorem dX3_awayFrom_19 : decode cX3_awayFrom 19 = .ok (.if_icmp .gt 7, 3) := by decide +kernel
theorem dX3_awayFrom_22 : decode cX3_awayFrom 22 = .ok (.iload_n 3, 1) := by decide +kernel
theorem dX3_awayFrom_23 : decode cX3_awayFrom 23 = .ok (.goto 6, 3) := by decide +kernel
theorem dX3_awayFrom_26 : decode cX3_awayFrom 26 = .ok (.iload_n 2, 1) := by decide +kernel
theorem dX3_awayFrom_27 : decode cX3_awayFrom 27 = .ok (.iload_n 3, 1) := by decide +kernel
theorem dX3_awayFrom_28 : decode cX3_awayFrom 28 = .ok (.isub, 1) := by decide +kernel
theorem dX3_awayFrom_29 : decode cX3_awayFrom 29 = .ok (.ireturn, 1) := by decide +kernel
theorem dX3_gap_0 : decode cX3_gap 0 = .ok (.iload_n 2, 1) := by decide +kernel
theorem dX3_gap_1 : decode cX3_gap 1 = .ok (.iconst 1, 1) := by decide +kernel
theorem dX3_gap_2 : decode cX3_gap 2 = .ok (.if_icmp .ge 5, 3) := by decide +kernel
theorem dX3_gap_5 : decode cX3_gap 5 = .ok (.iconst 0, 1) := by decide +kernel
theorem dX3_gap_6 : decode cX3_gap 6 = .ok (.ireturn, 1) := by decide +kernel
theorem dX3_gap_7 : decode cX3_gap 7 = .ok (.iload_n 0, 1) := by decide +kernel
theorem dX3_gap_8 : decode cX3_gap 8 = .ok (.iload_n 1, 1) := by decide +kernel
theorem dX3_gap_9 : decode cX3_gap 9 = .ok (.isub, 1) := by decide +kernel
theorem dX3_gap_10 : decode cX3_gap 10 = .ok (.iload_n 2, 1) := by decide +kernel
theorem dX3_gap_11 : decode cX3_gap 11 = .ok (.iadd, 1) := by decide +kernel
theorem dX3_gap_12 : decode cX3_gap 12 = .ok (.iload_n 2, 1) := by decide +kernel
theorem dX3_gap_13 : decode cX3_gap 13 = .ok (.irem, 1) := by decide +kernel
theorem dX3_gap_14 : decode cX3_gap 14 = .ok (.istore 4, 2) := by decide +kernel
theorem dX3_gap_16 : decode cX3_gap 16 = .ok (.iload_n 2, 1) := by decide +kernel
theorem dX3_gap_17 : decode cX3_gap 17 = .ok (.iload_n 3, 1) := by decide +kernel
theorem dX3_gap_18 : decode cX3_gap 18 = .ok (.isub, 1) := by decide +kernel
theorem dX3_gap_19 : decode cX3_gap 19 = .ok (.iload 4, 2) := by decide +kernel
theorem dX3_gap_21 : decode cX3_gap 21 = .ok (.isub, 1) := by decide +kernel
theorem dX3_gap_22 : decode cX3_gap 22 = .ok (.istore 5, 2) := by decide +kernel
theorem dX3_gap_24 : decode cX3_gap 24 = .ok (.iload 4, 2) := by decide +kernel
theorem dX3_gap_26 : decode cX3_gap 26 = .ok (.iload_n 3, 1) := by decide +kernel
theorem dX3_gap_27 : decode cX3_gap 27 = .ok (.if_icmp .le 8, 3) := by decide +kernel
theorem dX3_gap_30 : decode cX3_gap 30 = .ok (.iload 5, 2) := by decide +kernel
theorem dX3_gap_32 : decode cX3_gap 32 = .ok (.ifCond .ge 7, 3) := by decide +kernel
theorem dX3_gap_35 : decode cX3_gap 35 = .ok (.iconst 0, 1) := by decide +kernel
theorem dX3_gap_36 : decode cX3_gap 36 = .ok (.goto 5, 3) := by decide +kernel
theorem dX3_gap_39 : decode cX3_gap 39 = .ok (.iload 5, 2) := by decide +kernel
theorem dX3_gap_41 : decode cX3_gap 41 = .ok (.ireturn, 1) := by decide +kernel
