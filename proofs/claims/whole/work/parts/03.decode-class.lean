theorem d_MT_init_0 : decode b_MT_init 0 = .ok (.aload_n 0, 1) := by decide +kernel
theorem d_MT_init_1 : decode b_MT_init 1 = .ok (.invokespecial 3, 3) := by decide +kernel
theorem d_MT_init_4 : decode b_MT_init 4 = .ok (.aload_n 0, 1) := by decide +kernel
theorem d_MT_init_5 : decode b_MT_init 5 = .ok (.new 9, 3) := by decide +kernel
theorem d_MT_init_8 : decode b_MT_init 8 = .ok (.dup, 1) := by decide +kernel
theorem d_MT_init_9 : decode b_MT_init 9 = .ok (.invokespecial 11, 3) := by decide +kernel
theorem d_MT_init_12 : decode b_MT_init 12 = .ok (.putfield 12, 3) := by decide +kernel
theorem d_MT_init_15 : decode b_MT_init 15 = .ok (.aload_n 0, 1) := by decide +kernel
theorem d_MT_init_16 : decode b_MT_init 16 = .ok (.new 16, 3) := by decide +kernel
theorem d_MT_init_19 : decode b_MT_init 19 = .ok (.dup, 1) := by decide +kernel
theorem d_MT_init_20 : decode b_MT_init 20 = .ok (.invokespecial 18, 3) := by decide +kernel
theorem d_MT_init_23 : decode b_MT_init 23 = .ok (.putfield 19, 3) := by decide +kernel
theorem d_MT_init_26 : decode b_MT_init 26 = .ok (.aload_n 0, 1) := by decide +kernel
theorem d_MT_init_27 : decode b_MT_init 27 = .ok (.new 23, 3) := by decide +kernel
theorem d_MT_init_30 : decode b_MT_init 30 = .ok (.dup, 1) := by decide +kernel
theorem d_MT_init_31 : decode b_MT_init 31 = .ok (.invokespecial 25, 3) := by decide +kernel
theorem d_MT_init_34 : decode b_MT_init 34 = .ok (.putfield 26, 3) := by decide +kernel
theorem d_MT_init_37 : decode b_MT_init 37 = .ok (.aload_n 0, 1) := by decide +kernel
theorem d_MT_init_38 : decode b_MT_init 38 = .ok (.new 30, 3) := by decide +kernel
theorem d_MT_init_41 : decode b_MT_init 41 = .ok (.dup, 1) := by decide +kernel
theorem d_MT_init_42 : decode b_MT_init 42 = .ok (.invokespecial 32, 3) := by decide +kernel
theorem d_MT_init_45 : decode b_MT_init 45 = .ok (.putfield 33, 3) := by decide +kernel
theorem d_MT_init_48 : decode b_MT_init 48 = .ok (.aload_n 0, 1) := by decide +kernel
theorem d_MT_init_49 : decode b_MT_init 49 = .ok (.new 37, 3) := by decide +kernel
theorem d_MT_init_52 : decode b_MT_init 52 = .ok (.dup, 1) := by decide +kernel
theorem d_MT_init_53 : decode b_MT_init 53 = .ok (.invokespecial 39, 3) := by decide +kernel
theorem d_MT_init_56 : decode b_MT_init 56 = .ok (.putfield 40, 3) := by decide +kernel
theorem d_MT_init_59 : decode b_MT_init 59 = .ok (.aload_n 0, 1) := by decide +kernel
theorem d_MT_init_60 : decode b_MT_init 60 = .ok (.new 37, 3) := by decide +kernel
theorem d_MT_init_63 : decode b_MT_init 63 = .ok (.dup, 1) := by decide +kernel
theorem d_MT_init_64 : decode b_MT_init 64 = .ok (.invokespecial 39, 3) := by decide +kernel
theorem d_MT_init_67 : decode b_MT_init 67 = .ok (.putfield 44, 3) := by decide +kernel
theorem d_MT_init_70 : decode b_MT_init 70 = .ok (.return_, 1) := by decide +kernel
theorem d_MT_sign_0 : decode b_MT_sign 0 = .ok (.iload_n 1, 1) := by decide +kernel
theorem d_MT_sign_1 : decode b_MT_sign 1 = .ok (.bipush 32, 2) := by decide +kernel
theorem d_MT_sign_3 : decode b_MT_sign 3 = .ok (.if_icmp .lt 28, 3) := by decide +kernel
theorem d_MT_sign_6 : decode b_MT_sign 6 = .ok (.iload_n 1, 1) := by decide +kernel
theorem d_MT_sign_7 : decode b_MT_sign 7 = .ok (.bipush 126, 2) := by decide +kernel
theorem d_MT_sign_9 : decode b_MT_sign 9 = .ok (.if_icmp .gt 22, 3) := by decide +kernel
theorem d_MT_sign_12 : decode b_MT_sign 12 = .ok (.aload_n 0, 1) := by decide +kernel
theorem d_MT_sign_13 : decode b_MT_sign 13 = .ok (.getfield 12, 3) := by decide +kernel
theorem d_MT_sign_16 : decode b_MT_sign 16 = .ok (.getfield 47, 3) := by decide +kernel
theorem d_MT_sign_19 : decode b_MT_sign 19 = .ok (.iload_n 1, 1) := by decide +kernel
theorem d_MT_sign_20 : decode b_MT_sign 20 = .ok (.i2c, 1) := by decide +kernel
theorem d_MT_sign_21 : decode b_MT_sign 21 = .ok (.invokevirtual 50, 3) := by decide +kernel
theorem d_MT_sign_24 : decode b_MT_sign 24 = .ok (.ifCond .eq 7, 3) := by decide +kernel
theorem d_MT_sign_27 : decode b_MT_sign 27 = .ok (.iconst 1, 1) := by decide +kernel
theorem d_MT_sign_28 : decode b_MT_sign 28 = .ok (.goto 4, 3) := by decide +kernel
theorem d_MT_sign_31 : decode b_MT_sign 31 = .ok (.iconst 0, 1) := by decide +kernel
theorem d_MT_sign_32 : decode b_MT_sign 32 = .ok (.ireturn, 1) := by decide +kernel
theorem d_MT_read_0 : decode b_MT_read 0 = .ok (.aload_n 0, 1) := by decide +kernel
theorem d_MT_read_1 : decode b_MT_read 1 = .ok (.getfield 12, 3) := by decide +kernel
theorem d_MT_read_4 : decode b_MT_read 4 = .ok (.aload_n 0, 1) := by decide +kernel
theorem d_MT_read_5 : decode b_MT_read 5 = .ok (.getfield 44, 3) := by decide +kernel
theorem d_MT_read_8 : decode b_MT_read 8 = .ok (.invokevirtual 54, 3) := by decide +kernel
theorem d_MT_read_11 : decode b_MT_read 11 = .ok (.istore_n 1, 1) := by decide +kernel
theorem d_MT_read_12 : decode b_MT_read 12 = .ok (.aload_n 0, 1) := by decide +kernel
theorem d_MT_read_13 : decode b_MT_read 13 = .ok (.getfield 12, 3) := by decide +kernel
theorem d_MT_read_16 : decode b_MT_read 16 = .ok (.getfield 47, 3) := by decide +kernel
theorem d_MT_read_19 : decode b_MT_read 19 = .ok (.invokevirtual 58, 3) := by decide +kernel
theorem d_MT_read_22 : decode b_MT_read 22 = .ok (.iload_n 1, 1) := by decide +kernel
theorem d_MT_read_23 : decode b_MT_read 23 = .ok (.ifCond .ne 13, 3) := by decide +kernel
theorem d_MT_read_26 : decode b_MT_read 26 = .ok (.iconst (-1), 1) := by decide +kernel
theorem d_MT_read_27 : decode b_MT_read 27 = .ok (.aload_n 0, 1) := by decide +kernel
theorem d_MT_read_28 : decode b_MT_read 28 = .ok (.getfield 12, 3) := by decide +kernel
theorem d_MT_read_31 : decode b_MT_read 31 = .ok (.getfield 61, 3) := by decide +kernel
theorem d_MT_read_34 : decode b_MT_read 34 = .ok (.isub, 1) := by decide +kernel
theorem d_MT_read_35 : decode b_MT_read 35 = .ok (.ireturn, 1) := by decide +kernel
theorem d_MT_read_36 : decode b_MT_read 36 = .ok (.aload_n 0, 1) := by decide +kernel
theorem d_MT_read_37 : decode b_MT_read 37 = .ok (.getfield 40, 3) := by decide +kernel
theorem d_MT_read_40 : decode b_MT_read 40 = .ok (.astore_n 2, 1) := by decide +kernel
theorem d_MT_read_41 : decode b_MT_read 41 = .ok (.aload_n 0, 1) := by decide +kernel
theorem d_MT_read_42 : decode b_MT_read 42 = .ok (.aload_n 0, 1) := by decide +kernel
theorem d_MT_read_43 : decode b_MT_read 43 = .ok (.getfield 44, 3) := by decide +kernel
theorem d_MT_read_46 : decode b_MT_read 46 = .ok (.putfield 40, 3) := by decide +kernel
theorem d_MT_read_49 : decode b_MT_read 49 = .ok (.aload_n 0, 1) := by decide +kernel
theorem d_MT_read_50 : decode b_MT_read 50 = .ok (.aload_n 2, 1) := by decide +kernel
theorem d_MT_read_51 : decode b_MT_read 51 = .ok (.putfield 44, 3) := by decide +kernel
theorem d_MT_read_54 : decode b_MT_read 54 = .ok (.aload_n 0, 1) := by decide +kernel
theorem d_MT_read_55 : decode b_MT_read 55 = .ok (.getfield 26, 3) := by decide +kernel
theorem d_MT_read_58 : decode b_MT_read 58 = .ok (.aload_n 0, 1) := by decide +kernel
theorem d_MT_read_59 : decode b_MT_read 59 = .ok (.getfield 40, 3) := by decide +kernel
theorem d_MT_read_62 : decode b_MT_read 62 = .ok (.invokevirtual 65, 3) := by decide +kernel
theorem d_MT_read_65 : decode b_MT_read 65 = .ok (.aload_n 0, 1) := by decide +kernel
theorem d_MT_read_66 : decode b_MT_read 66 = .ok (.getfield 33, 3) := by decide +kernel
theorem d_MT_read_69 : decode b_MT_read 69 = .ok (.aload_n 0, 1) := by decide +kernel
theorem d_MT_read_70 : decode b_MT_read 70 = .ok (.getfield 40, 3) := by decide +kernel
theorem d_MT_read_73 : decode b_MT_read 73 = .ok (.aload_n 0, 1) := by decide +kernel
theorem d_MT_read_74 : decode b_MT_read 74 = .ok (.getfield 26, 3) := by decide +kernel
theorem d_MT_read_77 : decode b_MT_read 77 = .ok (.invokevirtual 69, 3) := by decide +kernel
theorem d_MT_read_80 : decode b_MT_read 80 = .ok (.aload_n 0, 1) := by decide +kernel
theorem d_MT_read_81 : decode b_MT_read 81 = .ok (.getfield 40, 3) := by decide +kernel
theorem d_MT_read_84 : decode b_MT_read 84 = .ok (.getfield 73, 3) := by decide +kernel
theorem d_MT_read_87 : decode b_MT_read 87 = .ok (.ireturn, 1) := by decide +kernel
theorem d_MT_part_0 : decode b_MT_part 0 = .ok (.iload_n 2, 1) := by decide +kernel
theorem d_MT_part_1 : decode b_MT_part 1 = .ok (.ifCond .lt 9, 3) := by decide +kernel
theorem d_MT_part_4 : decode b_MT_part 4 = .ok (.iload_n 2, 1) := by decide +kernel
theorem d_MT_part_5 : decode b_MT_part 5 = .ok (.bipush 6, 2) := by decide +kernel
theorem d_MT_part_7 : decode b_MT_part 7 = .ok (.if_icmp .lt 6, 3) := by decide +kernel
theorem d_MT_part_10 : decode b_MT_part 10 = .ok (.bipush (-12), 2) := by decide +kernel
theorem d_MT_part_12 : decode b_MT_part 12 = .ok (.ireturn, 1) := by decide +kernel
theorem d_MT_part_13 : decode b_MT_part 13 = .ok (.aload_n 0, 1) := by decide +kernel
theorem d_MT_part_14 : decode b_MT_part 14 = .ok (.getfield 40, 3) := by decide +kernel
theorem d_MT_part_17 : decode b_MT_part 17 = .ok (.iload_n 1, 1) := by decide +kernel
theorem d_MT_part_18 : decode b_MT_part 18 = .ok (.iload_n 2, 1) := by decide +kernel
theorem d_MT_part_19 : decode b_MT_part 19 = .ok (.invokevirtual 76, 3) := by decide +kernel
theorem d_MT_part_22 : decode b_MT_part 22 = .ok (.ireturn, 1) := by decide +kernel
theorem d_MT_check_0 : decode b_MT_check 0 = .ok (.aload_n 0, 1) := by decide +kernel
theorem d_MT_check_1 : decode b_MT_check 1 = .ok (.getfield 40, 3) := by decide +kernel
theorem d_MT_check_4 : decode b_MT_check 4 = .ok (.getfield 73, 3) := by decide +kernel
theorem d_MT_check_7 : decode b_MT_check 7 = .ok (.ifCond .ne 7, 3) := by decide +kernel
theorem d_MT_check_10 : decode b_MT_check 10 = .ok (.iconst (-1), 1) := by decide +kernel
theorem d_MT_check_11 : decode b_MT_check 11 = .ok (.goto 10, 3) := by decide +kernel
theorem d_MT_check_14 : decode b_MT_check 14 = .ok (.aload_n 0, 1) := by decide +kernel
theorem d_MT_check_15 : decode b_MT_check 15 = .ok (.getfield 33, 3) := by decide +kernel
theorem d_MT_check_18 : decode b_MT_check 18 = .ok (.getfield 80, 3) := by decide +kernel
theorem d_MT_check_21 : decode b_MT_check 21 = .ok (.ireturn, 1) := by decide +kernel
theorem d_MT_fault_0 : decode b_MT_fault 0 = .ok (.iload_n 2, 1) := by decide +kernel
theorem d_MT_fault_1 : decode b_MT_fault 1 = .ok (.ifCond .lt 8, 3) := by decide +kernel
theorem d_MT_fault_4 : decode b_MT_fault 4 = .ok (.iload_n 2, 1) := by decide +kernel
theorem d_MT_fault_5 : decode b_MT_fault 5 = .ok (.iconst 3, 1) := by decide +kernel
theorem d_MT_fault_6 : decode b_MT_fault 6 = .ok (.if_icmp .lt 6, 3) := by decide +kernel
theorem d_MT_fault_9 : decode b_MT_fault 9 = .ok (.bipush (-12), 2) := by decide +kernel
theorem d_MT_fault_11 : decode b_MT_fault 11 = .ok (.ireturn, 1) := by decide +kernel
theorem d_MT_fault_12 : decode b_MT_fault 12 = .ok (.aload_n 0, 1) := by decide +kernel
theorem d_MT_fault_13 : decode b_MT_fault 13 = .ok (.getfield 33, 3) := by decide +kernel
theorem d_MT_fault_16 : decode b_MT_fault 16 = .ok (.iload_n 1, 1) := by decide +kernel
theorem d_MT_fault_17 : decode b_MT_fault 17 = .ok (.iload_n 2, 1) := by decide +kernel
theorem d_MT_fault_18 : decode b_MT_fault 18 = .ok (.invokevirtual 81, 3) := by decide +kernel
theorem d_MT_fault_21 : decode b_MT_fault 21 = .ok (.ireturn, 1) := by decide +kernel
theorem d_MT_reach_0 : decode b_MT_reach 0 = .ok (.aload_n 0, 1) := by decide +kernel
theorem d_MT_reach_1 : decode b_MT_reach 1 = .ok (.getfield 40, 3) := by decide +kernel
theorem d_MT_reach_4 : decode b_MT_reach 4 = .ok (.iload_n 1, 1) := by decide +kernel
theorem d_MT_reach_5 : decode b_MT_reach 5 = .ok (.invokevirtual 82, 3) := by decide +kernel
theorem d_MT_reach_8 : decode b_MT_reach 8 = .ok (.istore_n 2, 1) := by decide +kernel
theorem d_MT_reach_9 : decode b_MT_reach 9 = .ok (.iload_n 2, 1) := by decide +kernel
theorem d_MT_reach_10 : decode b_MT_reach 10 = .ok (.iconst (-1), 1) := by decide +kernel
theorem d_MT_reach_11 : decode b_MT_reach 11 = .ok (.if_icmp .ne 6, 3) := by decide +kernel
theorem d_MT_reach_14 : decode b_MT_reach 14 = .ok (.bipush (-11), 2) := by decide +kernel
theorem d_MT_reach_16 : decode b_MT_reach 16 = .ok (.ireturn, 1) := by decide +kernel
theorem d_MT_reach_17 : decode b_MT_reach 17 = .ok (.aload_n 0, 1) := by decide +kernel
theorem d_MT_reach_18 : decode b_MT_reach 18 = .ok (.getfield 40, 3) := by decide +kernel
theorem d_MT_reach_21 : decode b_MT_reach 21 = .ok (.iload_n 2, 1) := by decide +kernel
theorem d_MT_reach_22 : decode b_MT_reach 22 = .ok (.iconst 0, 1) := by decide +kernel
theorem d_MT_reach_23 : decode b_MT_reach 23 = .ok (.invokevirtual 76, 3) := by decide +kernel
theorem d_MT_reach_26 : decode b_MT_reach 26 = .ok (.iconst 4, 1) := by decide +kernel
theorem d_MT_reach_27 : decode b_MT_reach 27 = .ok (.if_icmp .eq 6, 3) := by decide +kernel
theorem d_MT_reach_30 : decode b_MT_reach 30 = .ok (.bipush (-13), 2) := by decide +kernel
theorem d_MT_reach_32 : decode b_MT_reach 32 = .ok (.ireturn, 1) := by decide +kernel
theorem d_MT_reach_33 : decode b_MT_reach 33 = .ok (.aload_n 0, 1) := by decide +kernel
theorem d_MT_reach_34 : decode b_MT_reach 34 = .ok (.getfield 26, 3) := by decide +kernel
theorem d_MT_reach_37 : decode b_MT_reach 37 = .ok (.aload_n 0, 1) := by decide +kernel
theorem d_MT_reach_38 : decode b_MT_reach 38 = .ok (.getfield 40, 3) := by decide +kernel
theorem d_MT_reach_41 : decode b_MT_reach 41 = .ok (.iload_n 2, 1) := by decide +kernel
theorem d_MT_reach_42 : decode b_MT_reach 42 = .ok (.invokevirtual 86, 3) := by decide +kernel
theorem d_MT_reach_45 : decode b_MT_reach 45 = .ok (.iconst (-1), 1) := by decide +kernel
theorem d_MT_reach_46 : decode b_MT_reach 46 = .ok (.if_icmp .ne 7, 3) := by decide +kernel
theorem d_MT_reach_49 : decode b_MT_reach 49 = .ok (.iconst 0, 1) := by decide +kernel
theorem d_MT_reach_50 : decode b_MT_reach 50 = .ok (.goto 4, 3) := by decide +kernel
theorem d_MT_reach_53 : decode b_MT_reach 53 = .ok (.iconst 1, 1) := by decide +kernel
theorem d_MT_reach_54 : decode b_MT_reach 54 = .ok (.ireturn, 1) := by decide +kernel
theorem d_MT_time_0 : decode b_MT_time 0 = .ok (.aload_n 0, 1) := by decide +kernel
theorem d_MT_time_1 : decode b_MT_time 1 = .ok (.getfield 40, 3) := by decide +kernel
theorem d_MT_time_4 : decode b_MT_time 4 = .ok (.iload_n 1, 1) := by decide +kernel
theorem d_MT_time_5 : decode b_MT_time 5 = .ok (.invokevirtual 82, 3) := by decide +kernel
theorem d_MT_time_8 : decode b_MT_time 8 = .ok (.istore_n 3, 1) := by decide +kernel
theorem d_MT_time_9 : decode b_MT_time 9 = .ok (.aload_n 0, 1) := by decide +kernel
theorem d_MT_time_10 : decode b_MT_time 10 = .ok (.getfield 40, 3) := by decide +kernel
theorem d_MT_time_13 : decode b_MT_time 13 = .ok (.iload_n 2, 1) := by decide +kernel
theorem d_MT_time_14 : decode b_MT_time 14 = .ok (.invokevirtual 82, 3) := by decide +kernel
theorem d_MT_time_17 : decode b_MT_time 17 = .ok (.istore 4, 2) := by decide +kernel
theorem d_MT_time_19 : decode b_MT_time 19 = .ok (.iload_n 3, 1) := by decide +kernel
theorem d_MT_time_20 : decode b_MT_time 20 = .ok (.iconst (-1), 1) := by decide +kernel
theorem d_MT_time_21 : decode b_MT_time 21 = .ok (.if_icmp .eq 9, 3) := by decide +kernel
theorem d_MT_time_24 : decode b_MT_time 24 = .ok (.iload 4, 2) := by decide +kernel
theorem d_MT_time_26 : decode b_MT_time 26 = .ok (.iconst (-1), 1) := by decide +kernel
theorem d_MT_time_27 : decode b_MT_time 27 = .ok (.if_icmp .ne 7, 3) := by decide +kernel
theorem d_MT_time_30 : decode b_MT_time 30 = .ok (.ldc2_w 90, 3) := by decide +kernel
theorem d_MT_time_33 : decode b_MT_time 33 = .ok (.lreturn, 1) := by decide +kernel
theorem d_MT_time_34 : decode b_MT_time 34 = .ok (.iload_n 3, 1) := by decide +kernel
theorem d_MT_time_35 : decode b_MT_time 35 = .ok (.iload 4, 2) := by decide +kernel
theorem d_MT_time_37 : decode b_MT_time 37 = .ok (.if_icmp .ne 7, 3) := by decide +kernel
theorem d_MT_time_40 : decode b_MT_time 40 = .ok (.lconst 0, 1) := by decide +kernel
theorem d_MT_time_41 : decode b_MT_time 41 = .ok (.goto 14, 3) := by decide +kernel
theorem d_MT_time_44 : decode b_MT_time 44 = .ok (.aload_n 0, 1) := by decide +kernel
theorem d_MT_time_45 : decode b_MT_time 45 = .ok (.getfield 26, 3) := by decide +kernel
theorem d_MT_time_48 : decode b_MT_time 48 = .ok (.iload_n 3, 1) := by decide +kernel
theorem d_MT_time_49 : decode b_MT_time 49 = .ok (.iload 4, 2) := by decide +kernel
theorem d_MT_time_51 : decode b_MT_time 51 = .ok (.invokevirtual 92, 3) := by decide +kernel
theorem d_MT_time_54 : decode b_MT_time 54 = .ok (.i2l, 1) := by decide +kernel
theorem d_MT_time_55 : decode b_MT_time 55 = .ok (.lreturn, 1) := by decide +kernel
theorem d_MT_gap_0 : decode b_MT_gap 0 = .ok (.aload_n 0, 1) := by decide +kernel
theorem d_MT_gap_1 : decode b_MT_gap 1 = .ok (.getfield 40, 3) := by decide +kernel
theorem d_MT_gap_4 : decode b_MT_gap 4 = .ok (.iload_n 1, 1) := by decide +kernel
theorem d_MT_gap_5 : decode b_MT_gap 5 = .ok (.invokevirtual 82, 3) := by decide +kernel
theorem d_MT_gap_8 : decode b_MT_gap 8 = .ok (.istore_n 2, 1) := by decide +kernel
theorem d_MT_gap_9 : decode b_MT_gap 9 = .ok (.iload_n 2, 1) := by decide +kernel
theorem d_MT_gap_10 : decode b_MT_gap 10 = .ok (.iconst (-1), 1) := by decide +kernel
theorem d_MT_gap_11 : decode b_MT_gap 11 = .ok (.if_icmp .ne 8, 3) := by decide +kernel
theorem d_MT_gap_14 : decode b_MT_gap 14 = .ok (.bipush (-11), 2) := by decide +kernel
theorem d_MT_gap_16 : decode b_MT_gap 16 = .ok (.goto 15, 3) := by decide +kernel
theorem d_MT_gap_19 : decode b_MT_gap 19 = .ok (.aload_n 0, 1) := by decide +kernel
theorem d_MT_gap_20 : decode b_MT_gap 20 = .ok (.getfield 26, 3) := by decide +kernel
theorem d_MT_gap_23 : decode b_MT_gap 23 = .ok (.aload_n 0, 1) := by decide +kernel
theorem d_MT_gap_24 : decode b_MT_gap 24 = .ok (.getfield 40, 3) := by decide +kernel
theorem d_MT_gap_27 : decode b_MT_gap 27 = .ok (.iload_n 2, 1) := by decide +kernel
theorem d_MT_gap_28 : decode b_MT_gap 28 = .ok (.invokevirtual 86, 3) := by decide +kernel
theorem d_MT_gap_31 : decode b_MT_gap 31 = .ok (.ireturn, 1) := by decide +kernel
theorem d_MT_suffices_0 : decode b_MT_suffices 0 = .ok (.aload_n 0, 1) := by decide +kernel
theorem d_MT_suffices_1 : decode b_MT_suffices 1 = .ok (.getfield 40, 3) := by decide +kernel
theorem d_MT_suffices_4 : decode b_MT_suffices 4 = .ok (.iload_n 1, 1) := by decide +kernel
theorem d_MT_suffices_5 : decode b_MT_suffices 5 = .ok (.invokevirtual 82, 3) := by decide +kernel
theorem d_MT_suffices_8 : decode b_MT_suffices 8 = .ok (.istore 4, 2) := by decide +kernel
theorem d_MT_suffices_10 : decode b_MT_suffices 10 = .ok (.aload_n 0, 1) := by decide +kernel
theorem d_MT_suffices_11 : decode b_MT_suffices 11 = .ok (.getfield 40, 3) := by decide +kernel
theorem d_MT_suffices_14 : decode b_MT_suffices 14 = .ok (.iload 4, 2) := by decide +kernel
theorem d_MT_suffices_16 : decode b_MT_suffices 16 = .ok (.iconst 0, 1) := by decide +kernel
theorem d_MT_suffices_17 : decode b_MT_suffices 17 = .ok (.invokevirtual 76, 3) := by decide +kernel
theorem d_MT_suffices_20 : decode b_MT_suffices 20 = .ok (.iconst 3, 1) := by decide +kernel
theorem d_MT_suffices_21 : decode b_MT_suffices 21 = .ok (.if_icmp .ne 23, 3) := by decide +kernel
theorem d_MT_suffices_24 : decode b_MT_suffices 24 = .ok (.aload_n 0, 1) := by decide +kernel
theorem d_MT_suffices_25 : decode b_MT_suffices 25 = .ok (.getfield 40, 3) := by decide +kernel
theorem d_MT_suffices_28 : decode b_MT_suffices 28 = .ok (.iload 4, 2) := by decide +kernel
theorem d_MT_suffices_30 : decode b_MT_suffices 30 = .ok (.iconst 2, 1) := by decide +kernel
theorem d_MT_suffices_31 : decode b_MT_suffices 31 = .ok (.invokevirtual 76, 3) := by decide +kernel
theorem d_MT_suffices_34 : decode b_MT_suffices 34 = .ok (.i2l, 1) := by decide +kernel
theorem d_MT_suffices_35 : decode b_MT_suffices 35 = .ok (.lload_n 2, 1) := by decide +kernel
theorem d_MT_suffices_36 : decode b_MT_suffices 36 = .ok (.lcmp, 1) := by decide +kernel
theorem d_MT_suffices_37 : decode b_MT_suffices 37 = .ok (.ifCond .gt 7, 3) := by decide +kernel
theorem d_MT_suffices_40 : decode b_MT_suffices 40 = .ok (.iconst 1, 1) := by decide +kernel
theorem d_MT_suffices_41 : decode b_MT_suffices 41 = .ok (.goto 4, 3) := by decide +kernel
theorem d_MT_suffices_44 : decode b_MT_suffices 44 = .ok (.iconst 0, 1) := by decide +kernel
theorem d_MT_suffices_45 : decode b_MT_suffices 45 = .ok (.ireturn, 1) := by decide +kernel
theorem d_MT_print_0 : decode b_MT_print 0 = .ok (.aload_n 0, 1) := by decide +kernel
theorem d_MT_print_1 : decode b_MT_print 1 = .ok (.getfield 19, 3) := by decide +kernel
theorem d_MT_print_4 : decode b_MT_print 4 = .ok (.invokevirtual 58, 3) := by decide +kernel
theorem d_MT_print_7 : decode b_MT_print 7 = .ok (.iconst 0, 1) := by decide +kernel
theorem d_MT_print_8 : decode b_MT_print 8 = .ok (.istore_n 1, 1) := by decide +kernel
theorem d_MT_print_9 : decode b_MT_print 9 = .ok (.iload_n 1, 1) := by decide +kernel
theorem d_MT_print_10 : decode b_MT_print 10 = .ok (.aload_n 0, 1) := by decide +kernel
theorem d_MT_print_11 : decode b_MT_print 11 = .ok (.getfield 40, 3) := by decide +kernel
theorem d_MT_print_14 : decode b_MT_print 14 = .ok (.getfield 73, 3) := by decide +kernel
theorem d_MT_print_17 : decode b_MT_print 17 = .ok (.if_icmp .ge 14, 3) := by decide +kernel
theorem d_MT_print_20 : decode b_MT_print 20 = .ok (.aload_n 0, 1) := by decide +kernel
theorem d_MT_print_21 : decode b_MT_print 21 = .ok (.iload_n 1, 1) := by decide +kernel
theorem d_MT_print_22 : decode b_MT_print 22 = .ok (.invokevirtual 95, 3) := by decide +kernel
theorem d_MT_print_25 : decode b_MT_print 25 = .ok (.iinc 1 1, 3) := by decide +kernel
theorem d_MT_print_28 : decode b_MT_print 28 = .ok (.goto (-19), 3) := by decide +kernel
theorem d_MT_print_31 : decode b_MT_print 31 = .ok (.aload_n 0, 1) := by decide +kernel
theorem d_MT_print_32 : decode b_MT_print 32 = .ok (.getfield 19, 3) := by decide +kernel
theorem d_MT_print_35 : decode b_MT_print 35 = .ok (.getfield 99, 3) := by decide +kernel
theorem d_MT_print_38 : decode b_MT_print 38 = .ok (.ireturn, 1) := by decide +kernel
theorem d_MT_at_0 : decode b_MT_at 0 = .ok (.aload_n 0, 1) := by decide +kernel
theorem d_MT_at_1 : decode b_MT_at 1 = .ok (.getfield 19, 3) := by decide +kernel
theorem d_MT_at_4 : decode b_MT_at 4 = .ok (.iload_n 1, 1) := by decide +kernel
theorem d_MT_at_5 : decode b_MT_at 5 = .ok (.invokevirtual 102, 3) := by decide +kernel
theorem d_MT_at_8 : decode b_MT_at 8 = .ok (.ireturn, 1) := by decide +kernel
theorem d_MT_printPart_0 : decode b_MT_printPart 0 = .ok (.aload_n 0, 1) := by decide +kernel
theorem d_MT_printPart_1 : decode b_MT_printPart 1 = .ok (.getfield 40, 3) := by decide +kernel
theorem d_MT_printPart_4 : decode b_MT_printPart 4 = .ok (.iload_n 1, 1) := by decide +kernel
theorem d_MT_printPart_5 : decode b_MT_printPart 5 = .ok (.iconst 0, 1) := by decide +kernel
theorem d_MT_printPart_6 : decode b_MT_printPart 6 = .ok (.invokevirtual 76, 3) := by decide +kernel
theorem d_MT_printPart_9 : decode b_MT_printPart 9 = .ok (.istore_n 2, 1) := by decide +kernel
theorem d_MT_printPart_10 : decode b_MT_printPart 10 = .ok (.iload_n 2, 1) := by decide +kernel
theorem d_MT_printPart_11 : decode b_MT_printPart 11 = .ok (.ifCond .lt 11, 3) := by decide +kernel
theorem d_MT_printPart_14 : decode b_MT_printPart 14 = .ok (.iload_n 2, 1) := by decide +kernel
theorem d_MT_printPart_15 : decode b_MT_printPart 15 = .ok (.getstatic 105, 3) := by decide +kernel
theorem d_MT_printPart_18 : decode b_MT_printPart 18 = .ok (.arraylength, 1) := by decide +kernel
theorem d_MT_printPart_19 : decode b_MT_printPart 19 = .ok (.if_icmp .lt 4, 3) := by decide +kernel
theorem d_MT_printPart_22 : decode b_MT_printPart 22 = .ok (.return_, 1) := by decide +kernel
theorem d_MT_printPart_23 : decode b_MT_printPart 23 = .ok (.aload_n 0, 1) := by decide +kernel
theorem d_MT_printPart_24 : decode b_MT_printPart 24 = .ok (.getfield 19, 3) := by decide +kernel
theorem d_MT_printPart_27 : decode b_MT_printPart 27 = .ok (.getstatic 105, 3) := by decide +kernel
theorem d_MT_printPart_30 : decode b_MT_printPart 30 = .ok (.iload_n 2, 1) := by decide +kernel
theorem d_MT_printPart_31 : decode b_MT_printPart 31 = .ok (.caload, 1) := by decide +kernel
theorem d_MT_printPart_32 : decode b_MT_printPart 32 = .ok (.invokevirtual 50, 3) := by decide +kernel
theorem d_MT_printPart_35 : decode b_MT_printPart 35 = .ok (.pop, 1) := by decide +kernel
theorem d_MT_printPart_36 : decode b_MT_printPart 36 = .ok (.aload_n 0, 1) := by decide +kernel
theorem d_MT_printPart_37 : decode b_MT_printPart 37 = .ok (.getfield 19, 3) := by decide +kernel
theorem d_MT_printPart_40 : decode b_MT_printPart 40 = .ok (.aload_n 0, 1) := by decide +kernel
theorem d_MT_printPart_41 : decode b_MT_printPart 41 = .ok (.getfield 40, 3) := by decide +kernel
theorem d_MT_printPart_44 : decode b_MT_printPart 44 = .ok (.iload_n 1, 1) := by decide +kernel
theorem d_MT_printPart_45 : decode b_MT_printPart 45 = .ok (.iconst 1, 1) := by decide +kernel
theorem d_MT_printPart_46 : decode b_MT_printPart 46 = .ok (.invokevirtual 76, 3) := by decide +kernel
theorem d_MT_printPart_49 : decode b_MT_printPart 49 = .ok (.invokevirtual 109, 3) := by decide +kernel
theorem d_MT_printPart_52 : decode b_MT_printPart 52 = .ok (.aload_n 0, 1) := by decide +kernel
theorem d_MT_printPart_53 : decode b_MT_printPart 53 = .ok (.bipush 61, 2) := by decide +kernel
theorem d_MT_printPart_55 : decode b_MT_printPart 55 = .ok (.iload_n 1, 1) := by decide +kernel
theorem d_MT_printPart_56 : decode b_MT_printPart 56 = .ok (.iconst 2, 1) := by decide +kernel
theorem d_MT_printPart_57 : decode b_MT_printPart 57 = .ok (.invokevirtual 112, 3) := by decide +kernel
theorem d_MT_printPart_60 : decode b_MT_printPart 60 = .ok (.aload_n 0, 1) := by decide +kernel
theorem d_MT_printPart_61 : decode b_MT_printPart 61 = .ok (.bipush 44, 2) := by decide +kernel
theorem d_MT_printPart_63 : decode b_MT_printPart 63 = .ok (.iload_n 1, 1) := by decide +kernel
theorem d_MT_printPart_64 : decode b_MT_printPart 64 = .ok (.iconst 3, 1) := by decide +kernel
theorem d_MT_printPart_65 : decode b_MT_printPart 65 = .ok (.invokevirtual 112, 3) := by decide +kernel
theorem d_MT_printPart_68 : decode b_MT_printPart 68 = .ok (.aload_n 0, 1) := by decide +kernel
theorem d_MT_printPart_69 : decode b_MT_printPart 69 = .ok (.bipush 62, 2) := by decide +kernel
theorem d_MT_printPart_71 : decode b_MT_printPart 71 = .ok (.iload_n 1, 1) := by decide +kernel
theorem d_MT_printPart_72 : decode b_MT_printPart 72 = .ok (.iconst 4, 1) := by decide +kernel
theorem d_MT_printPart_73 : decode b_MT_printPart 73 = .ok (.invokevirtual 112, 3) := by decide +kernel
theorem d_MT_printPart_76 : decode b_MT_printPart 76 = .ok (.aload_n 0, 1) := by decide +kernel
theorem d_MT_printPart_77 : decode b_MT_printPart 77 = .ok (.bipush 44, 2) := by decide +kernel
theorem d_MT_printPart_79 : decode b_MT_printPart 79 = .ok (.iload_n 1, 1) := by decide +kernel
theorem d_MT_printPart_80 : decode b_MT_printPart 80 = .ok (.iconst 5, 1) := by decide +kernel
theorem d_MT_printPart_81 : decode b_MT_printPart 81 = .ok (.invokevirtual 112, 3) := by decide +kernel
theorem d_MT_printPart_84 : decode b_MT_printPart 84 = .ok (.aload_n 0, 1) := by decide +kernel
theorem d_MT_printPart_85 : decode b_MT_printPart 85 = .ok (.getfield 19, 3) := by decide +kernel
theorem d_MT_printPart_88 : decode b_MT_printPart 88 = .ok (.bipush 59, 2) := by decide +kernel
theorem d_MT_printPart_90 : decode b_MT_printPart 90 = .ok (.invokevirtual 50, 3) := by decide +kernel
theorem d_MT_printPart_93 : decode b_MT_printPart 93 = .ok (.pop, 1) := by decide +kernel
theorem d_MT_printPart_94 : decode b_MT_printPart 94 = .ok (.return_, 1) := by decide +kernel
theorem d_MT_printValue_0 : decode b_MT_printValue 0 = .ok (.aload_n 0, 1) := by decide +kernel
theorem d_MT_printValue_1 : decode b_MT_printValue 1 = .ok (.getfield 40, 3) := by decide +kernel
theorem d_MT_printValue_4 : decode b_MT_printValue 4 = .ok (.iload_n 2, 1) := by decide +kernel
theorem d_MT_printValue_5 : decode b_MT_printValue 5 = .ok (.iload_n 3, 1) := by decide +kernel
theorem d_MT_printValue_6 : decode b_MT_printValue 6 = .ok (.invokevirtual 76, 3) := by decide +kernel
theorem d_MT_printValue_9 : decode b_MT_printValue 9 = .ok (.istore 4, 2) := by decide +kernel
theorem d_MT_printValue_11 : decode b_MT_printValue 11 = .ok (.iload 4, 2) := by decide +kernel
theorem d_MT_printValue_13 : decode b_MT_printValue 13 = .ok (.iconst (-1), 1) := by decide +kernel
theorem d_MT_printValue_14 : decode b_MT_printValue 14 = .ok (.if_icmp .eq 21, 3) := by decide +kernel
theorem d_MT_printValue_17 : decode b_MT_printValue 17 = .ok (.aload_n 0, 1) := by decide +kernel
theorem d_MT_printValue_18 : decode b_MT_printValue 18 = .ok (.getfield 19, 3) := by decide +kernel
theorem d_MT_printValue_21 : decode b_MT_printValue 21 = .ok (.iload_n 1, 1) := by decide +kernel
theorem d_MT_printValue_22 : decode b_MT_printValue 22 = .ok (.invokevirtual 50, 3) := by decide +kernel
theorem d_MT_printValue_25 : decode b_MT_printValue 25 = .ok (.pop, 1) := by decide +kernel
theorem d_MT_printValue_26 : decode b_MT_printValue 26 = .ok (.aload_n 0, 1) := by decide +kernel
theorem d_MT_printValue_27 : decode b_MT_printValue 27 = .ok (.getfield 19, 3) := by decide +kernel
theorem d_MT_printValue_30 : decode b_MT_printValue 30 = .ok (.iload 4, 2) := by decide +kernel
theorem d_MT_printValue_32 : decode b_MT_printValue 32 = .ok (.invokevirtual 109, 3) := by decide +kernel
theorem d_MT_printValue_35 : decode b_MT_printValue 35 = .ok (.return_, 1) := by decide +kernel
theorem d_Tx_init_0 : decode b_Tx_init 0 = .ok (.aload_n 0, 1) := by decide +kernel
theorem d_Tx_init_1 : decode b_Tx_init 1 = .ok (.invokespecial 3, 3) := by decide +kernel
theorem d_Tx_init_4 : decode b_Tx_init 4 = .ok (.aload_n 0, 1) := by decide +kernel
theorem d_Tx_init_5 : decode b_Tx_init 5 = .ok (.sipush 300, 3) := by decide +kernel
theorem d_Tx_init_8 : decode b_Tx_init 8 = .ok (.newarray .char, 2) := by decide +kernel
theorem d_Tx_init_10 : decode b_Tx_init 10 = .ok (.putfield 9, 3) := by decide +kernel
theorem d_Tx_init_13 : decode b_Tx_init 13 = .ok (.aload_n 0, 1) := by decide +kernel
theorem d_Tx_init_14 : decode b_Tx_init 14 = .ok (.iconst 0, 1) := by decide +kernel
theorem d_Tx_init_15 : decode b_Tx_init 15 = .ok (.putfield 15, 3) := by decide +kernel
theorem d_Tx_init_18 : decode b_Tx_init 18 = .ok (.return_, 1) := by decide +kernel
theorem d_Tx_clear_0 : decode b_Tx_clear 0 = .ok (.aload_n 0, 1) := by decide +kernel
theorem d_Tx_clear_1 : decode b_Tx_clear 1 = .ok (.iconst 0, 1) := by decide +kernel
theorem d_Tx_clear_2 : decode b_Tx_clear 2 = .ok (.putfield 15, 3) := by decide +kernel
theorem d_Tx_clear_5 : decode b_Tx_clear 5 = .ok (.return_, 1) := by decide +kernel
theorem d_Tx_append_0 : decode b_Tx_append 0 = .ok (.aload_n 0, 1) := by decide +kernel
theorem d_Tx_append_1 : decode b_Tx_append 1 = .ok (.getfield 15, 3) := by decide +kernel
theorem d_Tx_append_4 : decode b_Tx_append 4 = .ok (.ifCond .lt 15, 3) := by decide +kernel
theorem d_Tx_append_7 : decode b_Tx_append 7 = .ok (.aload_n 0, 1) := by decide +kernel
theorem d_Tx_append_8 : decode b_Tx_append 8 = .ok (.getfield 15, 3) := by decide +kernel
theorem d_Tx_append_11 : decode b_Tx_append 11 = .ok (.aload_n 0, 1) := by decide +kernel
theorem d_Tx_append_12 : decode b_Tx_append 12 = .ok (.getfield 9, 3) := by decide +kernel
theorem d_Tx_append_15 : decode b_Tx_append 15 = .ok (.arraylength, 1) := by decide +kernel
theorem d_Tx_append_16 : decode b_Tx_append 16 = .ok (.if_icmp .lt 5, 3) := by decide +kernel
theorem d_Tx_append_19 : decode b_Tx_append 19 = .ok (.iconst 0, 1) := by decide +kernel
theorem d_Tx_append_20 : decode b_Tx_append 20 = .ok (.ireturn, 1) := by decide +kernel
theorem d_Tx_append_21 : decode b_Tx_append 21 = .ok (.aload_n 0, 1) := by decide +kernel
theorem d_Tx_append_22 : decode b_Tx_append 22 = .ok (.getfield 9, 3) := by decide +kernel
theorem d_Tx_append_25 : decode b_Tx_append 25 = .ok (.aload_n 0, 1) := by decide +kernel
theorem d_Tx_append_26 : decode b_Tx_append 26 = .ok (.getfield 15, 3) := by decide +kernel
theorem d_Tx_append_29 : decode b_Tx_append 29 = .ok (.iload_n 1, 1) := by decide +kernel
theorem d_Tx_append_30 : decode b_Tx_append 30 = .ok (.castore, 1) := by decide +kernel
theorem d_Tx_append_31 : decode b_Tx_append 31 = .ok (.aload_n 0, 1) := by decide +kernel
theorem d_Tx_append_32 : decode b_Tx_append 32 = .ok (.dup, 1) := by decide +kernel
theorem d_Tx_append_33 : decode b_Tx_append 33 = .ok (.getfield 15, 3) := by decide +kernel
theorem d_Tx_append_36 : decode b_Tx_append 36 = .ok (.iconst 1, 1) := by decide +kernel
theorem d_Tx_append_37 : decode b_Tx_append 37 = .ok (.iadd, 1) := by decide +kernel
theorem d_Tx_append_38 : decode b_Tx_append 38 = .ok (.putfield 15, 3) := by decide +kernel
theorem d_Tx_append_41 : decode b_Tx_append 41 = .ok (.iconst 1, 1) := by decide +kernel
theorem d_Tx_append_42 : decode b_Tx_append 42 = .ok (.ireturn, 1) := by decide +kernel
theorem d_Tx_appendNumber_0 : decode b_Tx_appendNumber 0 = .ok (.sipush 1000, 3) := by decide +kernel
theorem d_Tx_appendNumber_3 : decode b_Tx_appendNumber 3 = .ok (.istore_n 2, 1) := by decide +kernel
theorem d_Tx_appendNumber_4 : decode b_Tx_appendNumber 4 = .ok (.iload_n 2, 1) := by decide +kernel
theorem d_Tx_appendNumber_5 : decode b_Tx_appendNumber 5 = .ok (.iconst 1, 1) := by decide +kernel
theorem d_Tx_appendNumber_6 : decode b_Tx_appendNumber 6 = .ok (.if_icmp .lt 36, 3) := by decide +kernel
theorem d_Tx_appendNumber_9 : decode b_Tx_appendNumber 9 = .ok (.iload_n 1, 1) := by decide +kernel
theorem d_Tx_appendNumber_10 : decode b_Tx_appendNumber 10 = .ok (.iload_n 2, 1) := by decide +kernel
theorem d_Tx_appendNumber_11 : decode b_Tx_appendNumber 11 = .ok (.if_icmp .ge 8, 3) := by decide +kernel
theorem d_Tx_appendNumber_14 : decode b_Tx_appendNumber 14 = .ok (.iload_n 2, 1) := by decide +kernel
theorem d_Tx_appendNumber_15 : decode b_Tx_appendNumber 15 = .ok (.iconst 1, 1) := by decide +kernel
theorem d_Tx_appendNumber_16 : decode b_Tx_appendNumber 16 = .ok (.if_icmp .ne 18, 3) := by decide +kernel
theorem d_Tx_appendNumber_19 : decode b_Tx_appendNumber 19 = .ok (.aload_n 0, 1) := by decide +kernel
theorem d_Tx_appendNumber_20 : decode b_Tx_appendNumber 20 = .ok (.bipush 48, 2) := by decide +kernel
theorem d_Tx_appendNumber_22 : decode b_Tx_appendNumber 22 = .ok (.iload_n 1, 1) := by decide +kernel
theorem d_Tx_appendNumber_23 : decode b_Tx_appendNumber 23 = .ok (.iload_n 2, 1) := by decide +kernel
theorem d_Tx_appendNumber_24 : decode b_Tx_appendNumber 24 = .ok (.idiv, 1) := by decide +kernel
theorem d_Tx_appendNumber_25 : decode b_Tx_appendNumber 25 = .ok (.bipush 10, 2) := by decide +kernel
theorem d_Tx_appendNumber_27 : decode b_Tx_appendNumber 27 = .ok (.irem, 1) := by decide +kernel
theorem d_Tx_appendNumber_28 : decode b_Tx_appendNumber 28 = .ok (.iadd, 1) := by decide +kernel
theorem d_Tx_appendNumber_29 : decode b_Tx_appendNumber 29 = .ok (.i2c, 1) := by decide +kernel
theorem d_Tx_appendNumber_30 : decode b_Tx_appendNumber 30 = .ok (.invokevirtual 19, 3) := by decide +kernel
theorem d_Tx_appendNumber_33 : decode b_Tx_appendNumber 33 = .ok (.pop, 1) := by decide +kernel
theorem d_Tx_appendNumber_34 : decode b_Tx_appendNumber 34 = .ok (.iload_n 2, 1) := by decide +kernel
theorem d_Tx_appendNumber_35 : decode b_Tx_appendNumber 35 = .ok (.bipush 10, 2) := by decide +kernel
theorem d_Tx_appendNumber_37 : decode b_Tx_appendNumber 37 = .ok (.idiv, 1) := by decide +kernel
theorem d_Tx_appendNumber_38 : decode b_Tx_appendNumber 38 = .ok (.istore_n 2, 1) := by decide +kernel
theorem d_Tx_appendNumber_39 : decode b_Tx_appendNumber 39 = .ok (.goto (-35), 3) := by decide +kernel
theorem d_Tx_appendNumber_42 : decode b_Tx_appendNumber 42 = .ok (.return_, 1) := by decide +kernel
theorem d_Tx_characterAt_0 : decode b_Tx_characterAt 0 = .ok (.iload_n 1, 1) := by decide +kernel
theorem d_Tx_characterAt_1 : decode b_Tx_characterAt 1 = .ok (.ifCond .lt 20, 3) := by decide +kernel
theorem d_Tx_characterAt_4 : decode b_Tx_characterAt 4 = .ok (.iload_n 1, 1) := by decide +kernel
theorem d_Tx_characterAt_5 : decode b_Tx_characterAt 5 = .ok (.aload_n 0, 1) := by decide +kernel
theorem d_Tx_characterAt_6 : decode b_Tx_characterAt 6 = .ok (.getfield 15, 3) := by decide +kernel
theorem d_Tx_characterAt_9 : decode b_Tx_characterAt 9 = .ok (.if_icmp .ge 12, 3) := by decide +kernel
theorem d_Tx_characterAt_12 : decode b_Tx_characterAt 12 = .ok (.iload_n 1, 1) := by decide +kernel
theorem d_Tx_characterAt_13 : decode b_Tx_characterAt 13 = .ok (.aload_n 0, 1) := by decide +kernel
theorem d_Tx_characterAt_14 : decode b_Tx_characterAt 14 = .ok (.getfield 9, 3) := by decide +kernel
theorem d_Tx_characterAt_17 : decode b_Tx_characterAt 17 = .ok (.arraylength, 1) := by decide +kernel
theorem d_Tx_characterAt_18 : decode b_Tx_characterAt 18 = .ok (.if_icmp .lt 7, 3) := by decide +kernel
theorem d_Tx_characterAt_21 : decode b_Tx_characterAt 21 = .ok (.iconst (-1), 1) := by decide +kernel
theorem d_Tx_characterAt_22 : decode b_Tx_characterAt 22 = .ok (.goto 9, 3) := by decide +kernel
theorem d_Tx_characterAt_25 : decode b_Tx_characterAt 25 = .ok (.aload_n 0, 1) := by decide +kernel
theorem d_Tx_characterAt_26 : decode b_Tx_characterAt 26 = .ok (.getfield 9, 3) := by decide +kernel
theorem d_Tx_characterAt_29 : decode b_Tx_characterAt 29 = .ok (.iload_n 1, 1) := by decide +kernel
theorem d_Tx_characterAt_30 : decode b_Tx_characterAt 30 = .ok (.caload, 1) := by decide +kernel
theorem d_Tx_characterAt_31 : decode b_Tx_characterAt 31 = .ok (.ireturn, 1) := by decide +kernel
theorem d_Mc_init_0 : decode b_Mc_init 0 = .ok (.aload_n 0, 1) := by decide +kernel
theorem d_Mc_init_1 : decode b_Mc_init 1 = .ok (.invokespecial 3, 3) := by decide +kernel
theorem d_Mc_init_4 : decode b_Mc_init 4 = .ok (.aload_n 0, 1) := by decide +kernel
theorem d_Mc_init_5 : decode b_Mc_init 5 = .ok (.bipush 6, 2) := by decide +kernel
theorem d_Mc_init_7 : decode b_Mc_init 7 = .ok (.bipush 24, 2) := by decide +kernel
theorem d_Mc_init_9 : decode b_Mc_init 9 = .ok (.multianewarray 9 2, 4) := by decide +kernel
theorem d_Mc_init_13 : decode b_Mc_init 13 = .ok (.putfield 11, 3) := by decide +kernel
theorem d_Mc_init_16 : decode b_Mc_init 16 = .ok (.aload_n 0, 1) := by decide +kernel
theorem d_Mc_init_17 : decode b_Mc_init 17 = .ok (.bipush 30, 2) := by decide +kernel
theorem d_Mc_init_19 : decode b_Mc_init 19 = .ok (.newarray .int, 2) := by decide +kernel
theorem d_Mc_init_21 : decode b_Mc_init 21 = .ok (.putfield 16, 3) := by decide +kernel
theorem d_Mc_init_24 : decode b_Mc_init 24 = .ok (.aload_n 0, 1) := by decide +kernel
theorem d_Mc_init_25 : decode b_Mc_init 25 = .ok (.invokevirtual 20, 3) := by decide +kernel
theorem d_Mc_init_28 : decode b_Mc_init 28 = .ok (.return_, 1) := by decide +kernel
theorem d_Mc_clear_0 : decode b_Mc_clear 0 = .ok (.aload_n 0, 1) := by decide +kernel
theorem d_Mc_clear_1 : decode b_Mc_clear 1 = .ok (.iconst 0, 1) := by decide +kernel
theorem d_Mc_clear_2 : decode b_Mc_clear 2 = .ok (.putfield 23, 3) := by decide +kernel
theorem d_Mc_clear_5 : decode b_Mc_clear 5 = .ok (.iconst 0, 1) := by decide +kernel
theorem d_Mc_clear_6 : decode b_Mc_clear 6 = .ok (.istore_n 1, 1) := by decide +kernel
theorem d_Mc_clear_7 : decode b_Mc_clear 7 = .ok (.iload_n 1, 1) := by decide +kernel
theorem d_Mc_clear_8 : decode b_Mc_clear 8 = .ok (.aload_n 0, 1) := by decide +kernel
theorem d_Mc_clear_9 : decode b_Mc_clear 9 = .ok (.getfield 16, 3) := by decide +kernel
theorem d_Mc_clear_12 : decode b_Mc_clear 12 = .ok (.arraylength, 1) := by decide +kernel
theorem d_Mc_clear_13 : decode b_Mc_clear 13 = .ok (.if_icmp .ge 16, 3) := by decide +kernel
theorem d_Mc_clear_16 : decode b_Mc_clear 16 = .ok (.aload_n 0, 1) := by decide +kernel
theorem d_Mc_clear_17 : decode b_Mc_clear 17 = .ok (.getfield 16, 3) := by decide +kernel
theorem d_Mc_clear_20 : decode b_Mc_clear 20 = .ok (.iload_n 1, 1) := by decide +kernel
theorem d_Mc_clear_21 : decode b_Mc_clear 21 = .ok (.iconst (-1), 1) := by decide +kernel
theorem d_Mc_clear_22 : decode b_Mc_clear 22 = .ok (.iastore, 1) := by decide +kernel
theorem d_Mc_clear_23 : decode b_Mc_clear 23 = .ok (.iinc 1 1, 3) := by decide +kernel
theorem d_Mc_clear_26 : decode b_Mc_clear 26 = .ok (.goto (-19), 3) := by decide +kernel
theorem d_Mc_clear_29 : decode b_Mc_clear 29 = .ok (.return_, 1) := by decide +kernel
theorem d_Mc_addPart_0 : decode b_Mc_addPart 0 = .ok (.aload_n 0, 1) := by decide +kernel
theorem d_Mc_addPart_1 : decode b_Mc_addPart 1 = .ok (.getfield 23, 3) := by decide +kernel
theorem d_Mc_addPart_4 : decode b_Mc_addPart 4 = .ok (.ifCond .lt 25, 3) := by decide +kernel
theorem d_Mc_addPart_7 : decode b_Mc_addPart 7 = .ok (.aload_n 0, 1) := by decide +kernel
theorem d_Mc_addPart_8 : decode b_Mc_addPart 8 = .ok (.getfield 23, 3) := by decide +kernel
theorem d_Mc_addPart_11 : decode b_Mc_addPart 11 = .ok (.bipush 24, 2) := by decide +kernel
theorem d_Mc_addPart_13 : decode b_Mc_addPart 13 = .ok (.if_icmp .ge 16, 3) := by decide +kernel
theorem d_Mc_addPart_16 : decode b_Mc_addPart 16 = .ok (.iload_n 2, 1) := by decide +kernel
theorem d_Mc_addPart_17 : decode b_Mc_addPart 17 = .ok (.ifCond .lt 12, 3) := by decide +kernel
theorem d_Mc_addPart_20 : decode b_Mc_addPart 20 = .ok (.iload_n 2, 1) := by decide +kernel
theorem d_Mc_addPart_21 : decode b_Mc_addPart 21 = .ok (.aload_n 0, 1) := by decide +kernel
theorem d_Mc_addPart_22 : decode b_Mc_addPart 22 = .ok (.getfield 16, 3) := by decide +kernel
theorem d_Mc_addPart_25 : decode b_Mc_addPart 25 = .ok (.arraylength, 1) := by decide +kernel
theorem d_Mc_addPart_26 : decode b_Mc_addPart 26 = .ok (.if_icmp .lt 4, 3) := by decide +kernel
theorem d_Mc_addPart_29 : decode b_Mc_addPart 29 = .ok (.return_, 1) := by decide +kernel
theorem d_Mc_addPart_30 : decode b_Mc_addPart 30 = .ok (.aload_n 0, 1) := by decide +kernel
theorem d_Mc_addPart_31 : decode b_Mc_addPart 31 = .ok (.getfield 16, 3) := by decide +kernel
theorem d_Mc_addPart_34 : decode b_Mc_addPart 34 = .ok (.iload_n 2, 1) := by decide +kernel
theorem d_Mc_addPart_35 : decode b_Mc_addPart 35 = .ok (.aload_n 0, 1) := by decide +kernel
theorem d_Mc_addPart_36 : decode b_Mc_addPart 36 = .ok (.getfield 23, 3) := by decide +kernel
theorem d_Mc_addPart_39 : decode b_Mc_addPart 39 = .ok (.iastore, 1) := by decide +kernel
theorem d_Mc_addPart_40 : decode b_Mc_addPart 40 = .ok (.aload_n 0, 1) := by decide +kernel
theorem d_Mc_addPart_41 : decode b_Mc_addPart 41 = .ok (.dup, 1) := by decide +kernel
theorem d_Mc_addPart_42 : decode b_Mc_addPart 42 = .ok (.getfield 23, 3) := by decide +kernel
theorem d_Mc_addPart_45 : decode b_Mc_addPart 45 = .ok (.iconst 1, 1) := by decide +kernel
theorem d_Mc_addPart_46 : decode b_Mc_addPart 46 = .ok (.iadd, 1) := by decide +kernel
theorem d_Mc_addPart_47 : decode b_Mc_addPart 47 = .ok (.putfield 23, 3) := by decide +kernel
theorem d_Mc_addPart_50 : decode b_Mc_addPart 50 = .ok (.iconst 0, 1) := by decide +kernel
theorem d_Mc_addPart_51 : decode b_Mc_addPart 51 = .ok (.istore_n 3, 1) := by decide +kernel
theorem d_Mc_addPart_52 : decode b_Mc_addPart 52 = .ok (.iload_n 3, 1) := by decide +kernel
theorem d_Mc_addPart_53 : decode b_Mc_addPart 53 = .ok (.bipush 6, 2) := by decide +kernel
theorem d_Mc_addPart_55 : decode b_Mc_addPart 55 = .ok (.if_icmp .ge 15, 3) := by decide +kernel
theorem d_Mc_addPart_58 : decode b_Mc_addPart 58 = .ok (.aload_n 0, 1) := by decide +kernel
theorem d_Mc_addPart_59 : decode b_Mc_addPart 59 = .ok (.iload_n 3, 1) := by decide +kernel
theorem d_Mc_addPart_60 : decode b_Mc_addPart 60 = .ok (.iconst (-1), 1) := by decide +kernel
theorem d_Mc_addPart_61 : decode b_Mc_addPart 61 = .ok (.invokevirtual 27, 3) := by decide +kernel
theorem d_Mc_addPart_64 : decode b_Mc_addPart 64 = .ok (.iinc 3 1, 3) := by decide +kernel
theorem d_Mc_addPart_67 : decode b_Mc_addPart 67 = .ok (.goto (-15), 3) := by decide +kernel
theorem d_Mc_addPart_70 : decode b_Mc_addPart 70 = .ok (.aload_n 0, 1) := by decide +kernel
theorem d_Mc_addPart_71 : decode b_Mc_addPart 71 = .ok (.iconst 0, 1) := by decide +kernel
theorem d_Mc_addPart_72 : decode b_Mc_addPart 72 = .ok (.iload_n 1, 1) := by decide +kernel
theorem d_Mc_addPart_73 : decode b_Mc_addPart 73 = .ok (.invokevirtual 27, 3) := by decide +kernel
theorem d_Mc_addPart_76 : decode b_Mc_addPart 76 = .ok (.aload_n 0, 1) := by decide +kernel
theorem d_Mc_addPart_77 : decode b_Mc_addPart 77 = .ok (.iconst 1, 1) := by decide +kernel
theorem d_Mc_addPart_78 : decode b_Mc_addPart 78 = .ok (.iload_n 2, 1) := by decide +kernel
theorem d_Mc_addPart_79 : decode b_Mc_addPart 79 = .ok (.invokevirtual 27, 3) := by decide +kernel
theorem d_Mc_addPart_82 : decode b_Mc_addPart 82 = .ok (.return_, 1) := by decide +kernel
theorem d_Mc_setLatest_0 : decode b_Mc_setLatest 0 = .ok (.aload_n 0, 1) := by decide +kernel
theorem d_Mc_setLatest_1 : decode b_Mc_setLatest 1 = .ok (.getfield 23, 3) := by decide +kernel
theorem d_Mc_setLatest_4 : decode b_Mc_setLatest 4 = .ok (.iconst 1, 1) := by decide +kernel
theorem d_Mc_setLatest_5 : decode b_Mc_setLatest 5 = .ok (.isub, 1) := by decide +kernel
theorem d_Mc_setLatest_6 : decode b_Mc_setLatest 6 = .ok (.istore_n 3, 1) := by decide +kernel
theorem d_Mc_setLatest_7 : decode b_Mc_setLatest 7 = .ok (.iload_n 3, 1) := by decide +kernel
theorem d_Mc_setLatest_8 : decode b_Mc_setLatest 8 = .ok (.ifCond .lt 28, 3) := by decide +kernel
theorem d_Mc_setLatest_11 : decode b_Mc_setLatest 11 = .ok (.iload_n 3, 1) := by decide +kernel
theorem d_Mc_setLatest_12 : decode b_Mc_setLatest 12 = .ok (.bipush 24, 2) := by decide +kernel
theorem d_Mc_setLatest_14 : decode b_Mc_setLatest 14 = .ok (.if_icmp .ge 22, 3) := by decide +kernel
theorem d_Mc_setLatest_17 : decode b_Mc_setLatest 17 = .ok (.iload_n 1, 1) := by decide +kernel
theorem d_Mc_setLatest_18 : decode b_Mc_setLatest 18 = .ok (.ifCond .lt 18, 3) := by decide +kernel
theorem d_Mc_setLatest_21 : decode b_Mc_setLatest 21 = .ok (.iload_n 1, 1) := by decide +kernel
theorem d_Mc_setLatest_22 : decode b_Mc_setLatest 22 = .ok (.bipush 6, 2) := by decide +kernel
theorem d_Mc_setLatest_24 : decode b_Mc_setLatest 24 = .ok (.if_icmp .ge 12, 3) := by decide +kernel
theorem d_Mc_setLatest_27 : decode b_Mc_setLatest 27 = .ok (.aload_n 0, 1) := by decide +kernel
theorem d_Mc_setLatest_28 : decode b_Mc_setLatest 28 = .ok (.getfield 11, 3) := by decide +kernel
theorem d_Mc_setLatest_31 : decode b_Mc_setLatest 31 = .ok (.iload_n 1, 1) := by decide +kernel
theorem d_Mc_setLatest_32 : decode b_Mc_setLatest 32 = .ok (.aaload, 1) := by decide +kernel
theorem d_Mc_setLatest_33 : decode b_Mc_setLatest 33 = .ok (.iload_n 3, 1) := by decide +kernel
theorem d_Mc_setLatest_34 : decode b_Mc_setLatest 34 = .ok (.iload_n 2, 1) := by decide +kernel
theorem d_Mc_setLatest_35 : decode b_Mc_setLatest 35 = .ok (.iastore, 1) := by decide +kernel
theorem d_Mc_setLatest_36 : decode b_Mc_setLatest 36 = .ok (.return_, 1) := by decide +kernel
theorem d_Mc_value_0 : decode b_Mc_value 0 = .ok (.iload_n 1, 1) := by decide +kernel
theorem d_Mc_value_1 : decode b_Mc_value 1 = .ok (.ifCond .lt 27, 3) := by decide +kernel
theorem d_Mc_value_4 : decode b_Mc_value 4 = .ok (.iload_n 1, 1) := by decide +kernel
theorem d_Mc_value_5 : decode b_Mc_value 5 = .ok (.aload_n 0, 1) := by decide +kernel
theorem d_Mc_value_6 : decode b_Mc_value 6 = .ok (.getfield 23, 3) := by decide +kernel
theorem d_Mc_value_9 : decode b_Mc_value 9 = .ok (.if_icmp .ge 19, 3) := by decide +kernel
theorem d_Mc_value_12 : decode b_Mc_value 12 = .ok (.iload_n 1, 1) := by decide +kernel
theorem d_Mc_value_13 : decode b_Mc_value 13 = .ok (.bipush 24, 2) := by decide +kernel
theorem d_Mc_value_15 : decode b_Mc_value 15 = .ok (.if_icmp .ge 13, 3) := by decide +kernel
theorem d_Mc_value_18 : decode b_Mc_value 18 = .ok (.iload_n 2, 1) := by decide +kernel
theorem d_Mc_value_19 : decode b_Mc_value 19 = .ok (.ifCond .lt 9, 3) := by decide +kernel
theorem d_Mc_value_22 : decode b_Mc_value 22 = .ok (.iload_n 2, 1) := by decide +kernel
theorem d_Mc_value_23 : decode b_Mc_value 23 = .ok (.bipush 6, 2) := by decide +kernel
theorem d_Mc_value_25 : decode b_Mc_value 25 = .ok (.if_icmp .lt 5, 3) := by decide +kernel
theorem d_Mc_value_28 : decode b_Mc_value 28 = .ok (.iconst (-1), 1) := by decide +kernel
theorem d_Mc_value_29 : decode b_Mc_value 29 = .ok (.ireturn, 1) := by decide +kernel
theorem d_Mc_value_30 : decode b_Mc_value 30 = .ok (.aload_n 0, 1) := by decide +kernel
theorem d_Mc_value_31 : decode b_Mc_value 31 = .ok (.getfield 11, 3) := by decide +kernel
theorem d_Mc_value_34 : decode b_Mc_value 34 = .ok (.iload_n 2, 1) := by decide +kernel
theorem d_Mc_value_35 : decode b_Mc_value 35 = .ok (.aaload, 1) := by decide +kernel
theorem d_Mc_value_36 : decode b_Mc_value 36 = .ok (.iload_n 1, 1) := by decide +kernel
theorem d_Mc_value_37 : decode b_Mc_value 37 = .ok (.iaload, 1) := by decide +kernel
theorem d_Mc_value_38 : decode b_Mc_value 38 = .ok (.ireturn, 1) := by decide +kernel
theorem d_Mc_indexOf_0 : decode b_Mc_indexOf 0 = .ok (.iload_n 1, 1) := by decide +kernel
theorem d_Mc_indexOf_1 : decode b_Mc_indexOf 1 = .ok (.ifCond .lt 12, 3) := by decide +kernel
theorem d_Mc_indexOf_4 : decode b_Mc_indexOf 4 = .ok (.iload_n 1, 1) := by decide +kernel
theorem d_Mc_indexOf_5 : decode b_Mc_indexOf 5 = .ok (.aload_n 0, 1) := by decide +kernel
theorem d_Mc_indexOf_6 : decode b_Mc_indexOf 6 = .ok (.getfield 16, 3) := by decide +kernel
theorem d_Mc_indexOf_9 : decode b_Mc_indexOf 9 = .ok (.arraylength, 1) := by decide +kernel
theorem d_Mc_indexOf_10 : decode b_Mc_indexOf 10 = .ok (.if_icmp .lt 7, 3) := by decide +kernel
theorem d_Mc_indexOf_13 : decode b_Mc_indexOf 13 = .ok (.iconst (-1), 1) := by decide +kernel
theorem d_Mc_indexOf_14 : decode b_Mc_indexOf 14 = .ok (.goto 9, 3) := by decide +kernel
theorem d_Mc_indexOf_17 : decode b_Mc_indexOf 17 = .ok (.aload_n 0, 1) := by decide +kernel
theorem d_Mc_indexOf_18 : decode b_Mc_indexOf 18 = .ok (.getfield 16, 3) := by decide +kernel
theorem d_Mc_indexOf_21 : decode b_Mc_indexOf 21 = .ok (.iload_n 1, 1) := by decide +kernel
theorem d_Mc_indexOf_22 : decode b_Mc_indexOf 22 = .ok (.iaload, 1) := by decide +kernel
theorem d_Mc_indexOf_23 : decode b_Mc_indexOf 23 = .ok (.ireturn, 1) := by decide +kernel
theorem d_Mc_hasWay_0 : decode b_Mc_hasWay 0 = .ok (.aload_n 0, 1) := by decide +kernel
theorem d_Mc_hasWay_1 : decode b_Mc_hasWay 1 = .ok (.iload_n 1, 1) := by decide +kernel
theorem d_Mc_hasWay_2 : decode b_Mc_hasWay 2 = .ok (.iconst 4, 1) := by decide +kernel
theorem d_Mc_hasWay_3 : decode b_Mc_hasWay 3 = .ok (.iload_n 2, 1) := by decide +kernel
theorem d_Mc_hasWay_4 : decode b_Mc_hasWay 4 = .ok (.iadd, 1) := by decide +kernel
theorem d_Mc_hasWay_5 : decode b_Mc_hasWay 5 = .ok (.invokevirtual 31, 3) := by decide +kernel
theorem d_Mc_hasWay_8 : decode b_Mc_hasWay 8 = .ok (.iconst (-1), 1) := by decide +kernel
theorem d_Mc_hasWay_9 : decode b_Mc_hasWay 9 = .ok (.if_icmp .eq 7, 3) := by decide +kernel
theorem d_Mc_hasWay_12 : decode b_Mc_hasWay 12 = .ok (.iconst 1, 1) := by decide +kernel
theorem d_Mc_hasWay_13 : decode b_Mc_hasWay 13 = .ok (.goto 4, 3) := by decide +kernel
theorem d_Mc_hasWay_16 : decode b_Mc_hasWay 16 = .ok (.iconst 0, 1) := by decide +kernel
theorem d_Mc_hasWay_17 : decode b_Mc_hasWay 17 = .ok (.ireturn, 1) := by decide +kernel
theorem d_Mc_goal_0 : decode b_Mc_goal 0 = .ok (.aload_n 0, 1) := by decide +kernel
theorem d_Mc_goal_1 : decode b_Mc_goal 1 = .ok (.aload_n 0, 1) := by decide +kernel
theorem d_Mc_goal_2 : decode b_Mc_goal 2 = .ok (.iload_n 1, 1) := by decide +kernel
theorem d_Mc_goal_3 : decode b_Mc_goal 3 = .ok (.iconst 4, 1) := by decide +kernel
theorem d_Mc_goal_4 : decode b_Mc_goal 4 = .ok (.iload_n 2, 1) := by decide +kernel
theorem d_Mc_goal_5 : decode b_Mc_goal 5 = .ok (.iadd, 1) := by decide +kernel
theorem d_Mc_goal_6 : decode b_Mc_goal 6 = .ok (.invokevirtual 31, 3) := by decide +kernel
theorem d_Mc_goal_9 : decode b_Mc_goal 9 = .ok (.invokevirtual 35, 3) := by decide +kernel
theorem d_Mc_goal_12 : decode b_Mc_goal 12 = .ok (.ireturn, 1) := by decide +kernel
theorem d_Mc_timeThrough_0 : decode b_Mc_timeThrough 0 = .ok (.aload_n 0, 1) := by decide +kernel
theorem d_Mc_timeThrough_1 : decode b_Mc_timeThrough 1 = .ok (.iload_n 1, 1) := by decide +kernel
theorem d_Mc_timeThrough_2 : decode b_Mc_timeThrough 2 = .ok (.iconst 2, 1) := by decide +kernel
theorem d_Mc_timeThrough_3 : decode b_Mc_timeThrough 3 = .ok (.invokevirtual 31, 3) := by decide +kernel
theorem d_Mc_timeThrough_6 : decode b_Mc_timeThrough 6 = .ok (.istore_n 2, 1) := by decide +kernel
theorem d_Mc_timeThrough_7 : decode b_Mc_timeThrough 7 = .ok (.aload_n 0, 1) := by decide +kernel
theorem d_Mc_timeThrough_8 : decode b_Mc_timeThrough 8 = .ok (.iload_n 1, 1) := by decide +kernel
theorem d_Mc_timeThrough_9 : decode b_Mc_timeThrough 9 = .ok (.iconst 3, 1) := by decide +kernel
theorem d_Mc_timeThrough_10 : decode b_Mc_timeThrough 10 = .ok (.invokevirtual 31, 3) := by decide +kernel
theorem d_Mc_timeThrough_13 : decode b_Mc_timeThrough 13 = .ok (.istore_n 3, 1) := by decide +kernel
theorem d_Mc_timeThrough_14 : decode b_Mc_timeThrough 14 = .ok (.aload_n 0, 1) := by decide +kernel
theorem d_Mc_timeThrough_15 : decode b_Mc_timeThrough 15 = .ok (.iload_n 1, 1) := by decide +kernel
theorem d_Mc_timeThrough_16 : decode b_Mc_timeThrough 16 = .ok (.iconst 0, 1) := by decide +kernel
theorem d_Mc_timeThrough_17 : decode b_Mc_timeThrough 17 = .ok (.invokevirtual 31, 3) := by decide +kernel
theorem d_Mc_timeThrough_20 : decode b_Mc_timeThrough 20 = .ok (.iconst 1, 1) := by decide +kernel
theorem d_Mc_timeThrough_21 : decode b_Mc_timeThrough 21 = .ok (.if_icmp .ne 19, 3) := by decide +kernel
theorem d_Mc_timeThrough_24 : decode b_Mc_timeThrough 24 = .ok (.iload_n 3, 1) := by decide +kernel
theorem d_Mc_timeThrough_25 : decode b_Mc_timeThrough 25 = .ok (.ifCond .le 15, 3) := by decide +kernel
theorem d_Mc_timeThrough_28 : decode b_Mc_timeThrough 28 = .ok (.sipush 1000, 3) := by decide +kernel
theorem d_Mc_timeThrough_31 : decode b_Mc_timeThrough 31 = .ok (.iload_n 2, 1) := by decide +kernel
theorem d_Mc_timeThrough_32 : decode b_Mc_timeThrough 32 = .ok (.imul, 1) := by decide +kernel
theorem d_Mc_timeThrough_33 : decode b_Mc_timeThrough 33 = .ok (.iload_n 3, 1) := by decide +kernel
theorem d_Mc_timeThrough_34 : decode b_Mc_timeThrough 34 = .ok (.iadd, 1) := by decide +kernel
theorem d_Mc_timeThrough_35 : decode b_Mc_timeThrough 35 = .ok (.iconst 1, 1) := by decide +kernel
theorem d_Mc_timeThrough_36 : decode b_Mc_timeThrough 36 = .ok (.isub, 1) := by decide +kernel
theorem d_Mc_timeThrough_37 : decode b_Mc_timeThrough 37 = .ok (.iload_n 3, 1) := by decide +kernel
theorem d_Mc_timeThrough_38 : decode b_Mc_timeThrough 38 = .ok (.idiv, 1) := by decide +kernel
theorem d_Mc_timeThrough_39 : decode b_Mc_timeThrough 39 = .ok (.ireturn, 1) := by decide +kernel
theorem d_Mc_timeThrough_40 : decode b_Mc_timeThrough 40 = .ok (.aload_n 0, 1) := by decide +kernel
theorem d_Mc_timeThrough_41 : decode b_Mc_timeThrough 41 = .ok (.iload_n 1, 1) := by decide +kernel
theorem d_Mc_timeThrough_42 : decode b_Mc_timeThrough 42 = .ok (.iconst 0, 1) := by decide +kernel
theorem d_Mc_timeThrough_43 : decode b_Mc_timeThrough 43 = .ok (.invokevirtual 31, 3) := by decide +kernel
theorem d_Mc_timeThrough_46 : decode b_Mc_timeThrough 46 = .ok (.iconst 2, 1) := by decide +kernel
theorem d_Mc_timeThrough_47 : decode b_Mc_timeThrough 47 = .ok (.if_icmp .ne 7, 3) := by decide +kernel
theorem d_Mc_timeThrough_50 : decode b_Mc_timeThrough 50 = .ok (.iload_n 2, 1) := by decide +kernel
theorem d_Mc_timeThrough_51 : decode b_Mc_timeThrough 51 = .ok (.goto 4, 3) := by decide +kernel
theorem d_Mc_timeThrough_54 : decode b_Mc_timeThrough 54 = .ok (.iconst 0, 1) := by decide +kernel
theorem d_Mc_timeThrough_55 : decode b_Mc_timeThrough 55 = .ok (.ireturn, 1) := by decide +kernel
theorem d_Ps_init_0 : decode b_Ps_init 0 = .ok (.aload_n 0, 1) := by decide +kernel
theorem d_Ps_init_1 : decode b_Ps_init 1 = .ok (.invokespecial 3, 3) := by decide +kernel
theorem d_Ps_init_4 : decode b_Ps_init 4 = .ok (.aload_n 0, 1) := by decide +kernel
theorem d_Ps_init_5 : decode b_Ps_init 5 = .ok (.new 9, 3) := by decide +kernel
theorem d_Ps_init_8 : decode b_Ps_init 8 = .ok (.dup, 1) := by decide +kernel
theorem d_Ps_init_9 : decode b_Ps_init 9 = .ok (.invokespecial 11, 3) := by decide +kernel
theorem d_Ps_init_12 : decode b_Ps_init 12 = .ok (.putfield 12, 3) := by decide +kernel
theorem d_Ps_init_15 : decode b_Ps_init 15 = .ok (.aload_n 0, 1) := by decide +kernel
theorem d_Ps_init_16 : decode b_Ps_init 16 = .ok (.iconst 0, 1) := by decide +kernel
theorem d_Ps_init_17 : decode b_Ps_init 17 = .ok (.putfield 18, 3) := by decide +kernel
theorem d_Ps_init_20 : decode b_Ps_init 20 = .ok (.return_, 1) := by decide +kernel
theorem d_Ps_readParts_0 : decode b_Ps_readParts 0 = .ok (.aload_n 1, 1) := by decide +kernel
theorem d_Ps_readParts_1 : decode b_Ps_readParts 1 = .ok (.invokevirtual 22, 3) := by decide +kernel
theorem d_Ps_readParts_4 : decode b_Ps_readParts 4 = .ok (.aload_n 0, 1) := by decide +kernel
theorem d_Ps_readParts_5 : decode b_Ps_readParts 5 = .ok (.iconst 0, 1) := by decide +kernel
theorem d_Ps_readParts_6 : decode b_Ps_readParts 6 = .ok (.putfield 18, 3) := by decide +kernel
theorem d_Ps_readParts_9 : decode b_Ps_readParts 9 = .ok (.aload_n 0, 1) := by decide +kernel
theorem d_Ps_readParts_10 : decode b_Ps_readParts 10 = .ok (.aload_n 1, 1) := by decide +kernel
theorem d_Ps_readParts_11 : decode b_Ps_readParts 11 = .ok (.invokevirtual 27, 3) := by decide +kernel
theorem d_Ps_readParts_14 : decode b_Ps_readParts 14 = .ok (.istore_n 2, 1) := by decide +kernel
theorem d_Ps_readParts_15 : decode b_Ps_readParts 15 = .ok (.iconst 1, 1) := by decide +kernel
theorem d_Ps_readParts_16 : decode b_Ps_readParts 16 = .ok (.istore_n 3, 1) := by decide +kernel
theorem d_Ps_readParts_17 : decode b_Ps_readParts 17 = .ok (.iload_n 3, 1) := by decide +kernel
theorem d_Ps_readParts_18 : decode b_Ps_readParts 18 = .ok (.bipush 24, 2) := by decide +kernel
theorem d_Ps_readParts_20 : decode b_Ps_readParts 20 = .ok (.if_icmp .ge 33, 3) := by decide +kernel
theorem d_Ps_readParts_23 : decode b_Ps_readParts 23 = .ok (.iload_n 2, 1) := by decide +kernel
theorem d_Ps_readParts_24 : decode b_Ps_readParts 24 = .ok (.ifCond .eq 29, 3) := by decide +kernel
theorem d_Ps_readParts_27 : decode b_Ps_readParts 27 = .ok (.aload_n 0, 1) := by decide +kernel
theorem d_Ps_readParts_28 : decode b_Ps_readParts 28 = .ok (.getfield 18, 3) := by decide +kernel
theorem d_Ps_readParts_31 : decode b_Ps_readParts 31 = .ok (.aload_n 0, 1) := by decide +kernel
theorem d_Ps_readParts_32 : decode b_Ps_readParts 32 = .ok (.getfield 12, 3) := by decide +kernel
theorem d_Ps_readParts_35 : decode b_Ps_readParts 35 = .ok (.getfield 31, 3) := by decide +kernel
theorem d_Ps_readParts_38 : decode b_Ps_readParts 38 = .ok (.if_icmp .ge 15, 3) := by decide +kernel
theorem d_Ps_readParts_41 : decode b_Ps_readParts 41 = .ok (.aload_n 0, 1) := by decide +kernel
theorem d_Ps_readParts_42 : decode b_Ps_readParts 42 = .ok (.aload_n 1, 1) := by decide +kernel
theorem d_Ps_readParts_43 : decode b_Ps_readParts 43 = .ok (.invokevirtual 27, 3) := by decide +kernel
theorem d_Ps_readParts_46 : decode b_Ps_readParts 46 = .ok (.istore_n 2, 1) := by decide +kernel
theorem d_Ps_readParts_47 : decode b_Ps_readParts 47 = .ok (.iinc 3 1, 3) := by decide +kernel
theorem d_Ps_readParts_50 : decode b_Ps_readParts 50 = .ok (.goto (-33), 3) := by decide +kernel
theorem d_Ps_readParts_53 : decode b_Ps_readParts 53 = .ok (.iload_n 2, 1) := by decide +kernel
theorem d_Ps_readParts_54 : decode b_Ps_readParts 54 = .ok (.ifCond .eq 21, 3) := by decide +kernel
theorem d_Ps_readParts_57 : decode b_Ps_readParts 57 = .ok (.aload_n 0, 1) := by decide +kernel
theorem d_Ps_readParts_58 : decode b_Ps_readParts 58 = .ok (.getfield 18, 3) := by decide +kernel
theorem d_Ps_readParts_61 : decode b_Ps_readParts 61 = .ok (.aload_n 0, 1) := by decide +kernel
theorem d_Ps_readParts_62 : decode b_Ps_readParts 62 = .ok (.getfield 12, 3) := by decide +kernel
theorem d_Ps_readParts_65 : decode b_Ps_readParts 65 = .ok (.getfield 31, 3) := by decide +kernel
theorem d_Ps_readParts_68 : decode b_Ps_readParts 68 = .ok (.if_icmp .ne 7, 3) := by decide +kernel
theorem d_Ps_readParts_71 : decode b_Ps_readParts 71 = .ok (.iconst 1, 1) := by decide +kernel
theorem d_Ps_readParts_72 : decode b_Ps_readParts 72 = .ok (.goto 4, 3) := by decide +kernel
theorem d_Ps_readParts_75 : decode b_Ps_readParts 75 = .ok (.iconst 0, 1) := by decide +kernel
theorem d_Ps_readParts_76 : decode b_Ps_readParts 76 = .ok (.ireturn, 1) := by decide +kernel
theorem d_Ps_readPart_0 : decode b_Ps_readPart 0 = .ok (.aload_n 0, 1) := by decide +kernel
theorem d_Ps_readPart_1 : decode b_Ps_readPart 1 = .ok (.getfield 12, 3) := by decide +kernel
theorem d_Ps_readPart_4 : decode b_Ps_readPart 4 = .ok (.aload_n 0, 1) := by decide +kernel
theorem d_Ps_readPart_5 : decode b_Ps_readPart 5 = .ok (.getfield 18, 3) := by decide +kernel
theorem d_Ps_readPart_8 : decode b_Ps_readPart 8 = .ok (.invokevirtual 34, 3) := by decide +kernel
theorem d_Ps_readPart_11 : decode b_Ps_readPart 11 = .ok (.invokestatic 38, 3) := by decide +kernel
theorem d_Ps_readPart_14 : decode b_Ps_readPart 14 = .ok (.istore_n 2, 1) := by decide +kernel
theorem d_Ps_readPart_15 : decode b_Ps_readPart 15 = .ok (.iload_n 2, 1) := by decide +kernel
theorem d_Ps_readPart_16 : decode b_Ps_readPart 16 = .ok (.ifCond .lt 19, 3) := by decide +kernel
theorem d_Ps_readPart_19 : decode b_Ps_readPart 19 = .ok (.iload_n 2, 1) := by decide +kernel
theorem d_Ps_readPart_20 : decode b_Ps_readPart 20 = .ok (.getstatic 41, 3) := by decide +kernel
theorem d_Ps_readPart_23 : decode b_Ps_readPart 23 = .ok (.arraylength, 1) := by decide +kernel
theorem d_Ps_readPart_24 : decode b_Ps_readPart 24 = .ok (.if_icmp .ge 11, 3) := by decide +kernel
theorem d_Ps_readPart_27 : decode b_Ps_readPart 27 = .ok (.iload_n 2, 1) := by decide +kernel
theorem d_Ps_readPart_28 : decode b_Ps_readPart 28 = .ok (.getstatic 45, 3) := by decide +kernel
theorem d_Ps_readPart_31 : decode b_Ps_readPart 31 = .ok (.arraylength, 1) := by decide +kernel
theorem d_Ps_readPart_32 : decode b_Ps_readPart 32 = .ok (.if_icmp .lt 5, 3) := by decide +kernel
theorem d_Ps_readPart_35 : decode b_Ps_readPart 35 = .ok (.iconst 0, 1) := by decide +kernel
theorem d_Ps_readPart_36 : decode b_Ps_readPart 36 = .ok (.ireturn, 1) := by decide +kernel
theorem d_Ps_readPart_37 : decode b_Ps_readPart 37 = .ok (.aload_n 0, 1) := by decide +kernel
theorem d_Ps_readPart_38 : decode b_Ps_readPart 38 = .ok (.dup, 1) := by decide +kernel
theorem d_Ps_readPart_39 : decode b_Ps_readPart 39 = .ok (.getfield 18, 3) := by decide +kernel
theorem d_Ps_readPart_42 : decode b_Ps_readPart 42 = .ok (.iconst 1, 1) := by decide +kernel
theorem d_Ps_readPart_43 : decode b_Ps_readPart 43 = .ok (.iadd, 1) := by decide +kernel
theorem d_Ps_readPart_44 : decode b_Ps_readPart 44 = .ok (.putfield 18, 3) := by decide +kernel
theorem d_Ps_readPart_47 : decode b_Ps_readPart 47 = .ok (.aload_n 0, 1) := by decide +kernel
theorem d_Ps_readPart_48 : decode b_Ps_readPart 48 = .ok (.aload_n 1, 1) := by decide +kernel
theorem d_Ps_readPart_49 : decode b_Ps_readPart 49 = .ok (.iload_n 2, 1) := by decide +kernel
theorem d_Ps_readPart_50 : decode b_Ps_readPart 50 = .ok (.invokevirtual 48, 3) := by decide +kernel
theorem d_Ps_readPart_53 : decode b_Ps_readPart 53 = .ok (.ifCond .eq 95, 3) := by decide +kernel
theorem d_Ps_readPart_56 : decode b_Ps_readPart 56 = .ok (.aload_n 0, 1) := by decide +kernel
theorem d_Ps_readPart_57 : decode b_Ps_readPart 57 = .ok (.aload_n 1, 1) := by decide +kernel
theorem d_Ps_readPart_58 : decode b_Ps_readPart 58 = .ok (.bipush 61, 2) := by decide +kernel
theorem d_Ps_readPart_60 : decode b_Ps_readPart 60 = .ok (.iconst 2, 1) := by decide +kernel
theorem d_Ps_readPart_61 : decode b_Ps_readPart 61 = .ok (.getstatic 41, 3) := by decide +kernel
theorem d_Ps_readPart_64 : decode b_Ps_readPart 64 = .ok (.iload_n 2, 1) := by decide +kernel
theorem d_Ps_readPart_65 : decode b_Ps_readPart 65 = .ok (.iaload, 1) := by decide +kernel
theorem d_Ps_readPart_66 : decode b_Ps_readPart 66 = .ok (.getstatic 45, 3) := by decide +kernel
theorem d_Ps_readPart_69 : decode b_Ps_readPart 69 = .ok (.iload_n 2, 1) := by decide +kernel
theorem d_Ps_readPart_70 : decode b_Ps_readPart 70 = .ok (.iaload, 1) := by decide +kernel
theorem d_Ps_readPart_71 : decode b_Ps_readPart 71 = .ok (.invokevirtual 52, 3) := by decide +kernel
theorem d_Ps_readPart_74 : decode b_Ps_readPart 74 = .ok (.ifCond .eq 74, 3) := by decide +kernel
theorem d_Ps_readPart_77 : decode b_Ps_readPart 77 = .ok (.iload_n 2, 1) := by decide +kernel
theorem d_Ps_readPart_78 : decode b_Ps_readPart 78 = .ok (.iconst 1, 1) := by decide +kernel
theorem d_Ps_readPart_79 : decode b_Ps_readPart 79 = .ok (.if_icmp .ne 18, 3) := by decide +kernel
theorem d_Ps_readPart_82 : decode b_Ps_readPart 82 = .ok (.aload_n 0, 1) := by decide +kernel
theorem d_Ps_readPart_83 : decode b_Ps_readPart 83 = .ok (.aload_n 1, 1) := by decide +kernel
theorem d_Ps_readPart_84 : decode b_Ps_readPart 84 = .ok (.bipush 44, 2) := by decide +kernel
theorem d_Ps_readPart_86 : decode b_Ps_readPart 86 = .ok (.iconst 3, 1) := by decide +kernel
theorem d_Ps_readPart_87 : decode b_Ps_readPart 87 = .ok (.iconst 1, 1) := by decide +kernel
theorem d_Ps_readPart_88 : decode b_Ps_readPart 88 = .ok (.sipush 9999, 3) := by decide +kernel
theorem d_Ps_readPart_91 : decode b_Ps_readPart 91 = .ok (.invokevirtual 52, 3) := by decide +kernel
theorem d_Ps_readPart_94 : decode b_Ps_readPart 94 = .ok (.ifCond .eq 54, 3) := by decide +kernel
theorem d_Ps_readPart_97 : decode b_Ps_readPart 97 = .ok (.iload_n 2, 1) := by decide +kernel
theorem d_Ps_readPart_98 : decode b_Ps_readPart 98 = .ok (.iconst 4, 1) := by decide +kernel
theorem d_Ps_readPart_99 : decode b_Ps_readPart 99 = .ok (.if_icmp .eq 17, 3) := by decide +kernel
theorem d_Ps_readPart_102 : decode b_Ps_readPart 102 = .ok (.aload_n 0, 1) := by decide +kernel
theorem d_Ps_readPart_103 : decode b_Ps_readPart 103 = .ok (.aload_n 1, 1) := by decide +kernel
theorem d_Ps_readPart_104 : decode b_Ps_readPart 104 = .ok (.bipush 62, 2) := by decide +kernel
theorem d_Ps_readPart_106 : decode b_Ps_readPart 106 = .ok (.iconst 4, 1) := by decide +kernel
theorem d_Ps_readPart_107 : decode b_Ps_readPart 107 = .ok (.iconst 0, 1) := by decide +kernel
theorem d_Ps_readPart_108 : decode b_Ps_readPart 108 = .ok (.bipush 29, 2) := by decide +kernel
theorem d_Ps_readPart_110 : decode b_Ps_readPart 110 = .ok (.invokevirtual 52, 3) := by decide +kernel
theorem d_Ps_readPart_113 : decode b_Ps_readPart 113 = .ok (.ifCond .eq 35, 3) := by decide +kernel
theorem d_Ps_readPart_116 : decode b_Ps_readPart 116 = .ok (.iload_n 2, 1) := by decide +kernel
theorem d_Ps_readPart_117 : decode b_Ps_readPart 117 = .ok (.iconst 3, 1) := by decide +kernel
theorem d_Ps_readPart_118 : decode b_Ps_readPart 118 = .ok (.if_icmp .ne 17, 3) := by decide +kernel
theorem d_Ps_readPart_121 : decode b_Ps_readPart 121 = .ok (.aload_n 0, 1) := by decide +kernel
theorem d_Ps_readPart_122 : decode b_Ps_readPart 122 = .ok (.aload_n 1, 1) := by decide +kernel
theorem d_Ps_readPart_123 : decode b_Ps_readPart 123 = .ok (.bipush 44, 2) := by decide +kernel
theorem d_Ps_readPart_125 : decode b_Ps_readPart 125 = .ok (.iconst 5, 1) := by decide +kernel
theorem d_Ps_readPart_126 : decode b_Ps_readPart 126 = .ok (.iconst 0, 1) := by decide +kernel
theorem d_Ps_readPart_127 : decode b_Ps_readPart 127 = .ok (.bipush 29, 2) := by decide +kernel
theorem d_Ps_readPart_129 : decode b_Ps_readPart 129 = .ok (.invokevirtual 52, 3) := by decide +kernel
theorem d_Ps_readPart_132 : decode b_Ps_readPart 132 = .ok (.ifCond .eq 16, 3) := by decide +kernel
theorem d_Ps_readPart_135 : decode b_Ps_readPart 135 = .ok (.aload_n 0, 1) := by decide +kernel
theorem d_Ps_readPart_136 : decode b_Ps_readPart 136 = .ok (.bipush 59, 2) := by decide +kernel
theorem d_Ps_readPart_138 : decode b_Ps_readPart 138 = .ok (.invokevirtual 56, 3) := by decide +kernel
theorem d_Ps_readPart_141 : decode b_Ps_readPart 141 = .ok (.ifCond .eq 7, 3) := by decide +kernel
theorem d_Ps_readPart_144 : decode b_Ps_readPart 144 = .ok (.iconst 1, 1) := by decide +kernel
theorem d_Ps_readPart_145 : decode b_Ps_readPart 145 = .ok (.goto 4, 3) := by decide +kernel
theorem d_Ps_readPart_148 : decode b_Ps_readPart 148 = .ok (.iconst 0, 1) := by decide +kernel
theorem d_Ps_readPart_149 : decode b_Ps_readPart 149 = .ok (.ireturn, 1) := by decide +kernel
theorem d_Ps_readNewName_0 : decode b_Ps_readNewName 0 = .ok (.aload_n 0, 1) := by decide +kernel
theorem d_Ps_readNewName_1 : decode b_Ps_readNewName 1 = .ok (.getfield 18, 3) := by decide +kernel
theorem d_Ps_readNewName_4 : decode b_Ps_readNewName 4 = .ok (.istore_n 3, 1) := by decide +kernel
theorem d_Ps_readNewName_5 : decode b_Ps_readNewName 5 = .ok (.aload_n 0, 1) := by decide +kernel
theorem d_Ps_readNewName_6 : decode b_Ps_readNewName 6 = .ok (.iconst 0, 1) := by decide +kernel
theorem d_Ps_readNewName_7 : decode b_Ps_readNewName 7 = .ok (.bipush 29, 2) := by decide +kernel
theorem d_Ps_readNewName_9 : decode b_Ps_readNewName 9 = .ok (.invokevirtual 60, 3) := by decide +kernel
theorem d_Ps_readNewName_12 : decode b_Ps_readNewName 12 = .ok (.istore 4, 2) := by decide +kernel
theorem d_Ps_readNewName_14 : decode b_Ps_readNewName 14 = .ok (.iload 4, 2) := by decide +kernel
theorem d_Ps_readNewName_16 : decode b_Ps_readNewName 16 = .ok (.iconst (-1), 1) := by decide +kernel
theorem d_Ps_readNewName_17 : decode b_Ps_readNewName 17 = .ok (.if_icmp .ne 5, 3) := by decide +kernel
theorem d_Ps_readNewName_20 : decode b_Ps_readNewName 20 = .ok (.iconst 0, 1) := by decide +kernel
theorem d_Ps_readNewName_21 : decode b_Ps_readNewName 21 = .ok (.ireturn, 1) := by decide +kernel
theorem d_Ps_readNewName_22 : decode b_Ps_readNewName 22 = .ok (.aload_n 1, 1) := by decide +kernel
theorem d_Ps_readNewName_23 : decode b_Ps_readNewName 23 = .ok (.iload 4, 2) := by decide +kernel
theorem d_Ps_readNewName_25 : decode b_Ps_readNewName 25 = .ok (.invokevirtual 64, 3) := by decide +kernel
theorem d_Ps_readNewName_28 : decode b_Ps_readNewName 28 = .ok (.iconst (-1), 1) := by decide +kernel
theorem d_Ps_readNewName_29 : decode b_Ps_readNewName 29 = .ok (.if_icmp .eq 10, 3) := by decide +kernel
theorem d_Ps_readNewName_32 : decode b_Ps_readNewName 32 = .ok (.aload_n 0, 1) := by decide +kernel
theorem d_Ps_readNewName_33 : decode b_Ps_readNewName 33 = .ok (.iload_n 3, 1) := by decide +kernel
theorem d_Ps_readNewName_34 : decode b_Ps_readNewName 34 = .ok (.putfield 18, 3) := by decide +kernel
theorem d_Ps_readNewName_37 : decode b_Ps_readNewName 37 = .ok (.iconst 0, 1) := by decide +kernel
theorem d_Ps_readNewName_38 : decode b_Ps_readNewName 38 = .ok (.ireturn, 1) := by decide +kernel
theorem d_Ps_readNewName_39 : decode b_Ps_readNewName 39 = .ok (.aload_n 1, 1) := by decide +kernel
theorem d_Ps_readNewName_40 : decode b_Ps_readNewName 40 = .ok (.iload_n 2, 1) := by decide +kernel
theorem d_Ps_readNewName_41 : decode b_Ps_readNewName 41 = .ok (.iload 4, 2) := by decide +kernel
theorem d_Ps_readNewName_43 : decode b_Ps_readNewName 43 = .ok (.invokevirtual 67, 3) := by decide +kernel
theorem d_Ps_readNewName_46 : decode b_Ps_readNewName 46 = .ok (.iconst 1, 1) := by decide +kernel
theorem d_Ps_readNewName_47 : decode b_Ps_readNewName 47 = .ok (.ireturn, 1) := by decide +kernel
theorem d_Ps_readValue_0 : decode b_Ps_readValue 0 = .ok (.aload_n 0, 1) := by decide +kernel
theorem d_Ps_readValue_1 : decode b_Ps_readValue 1 = .ok (.iload_n 2, 1) := by decide +kernel
theorem d_Ps_readValue_2 : decode b_Ps_readValue 2 = .ok (.invokevirtual 56, 3) := by decide +kernel
theorem d_Ps_readValue_5 : decode b_Ps_readValue 5 = .ok (.ifCond .ne 5, 3) := by decide +kernel
theorem d_Ps_readValue_8 : decode b_Ps_readValue 8 = .ok (.iconst 0, 1) := by decide +kernel
theorem d_Ps_readValue_9 : decode b_Ps_readValue 9 = .ok (.ireturn, 1) := by decide +kernel
theorem d_Ps_readValue_10 : decode b_Ps_readValue 10 = .ok (.aload_n 0, 1) := by decide +kernel
theorem d_Ps_readValue_11 : decode b_Ps_readValue 11 = .ok (.iload 4, 2) := by decide +kernel
theorem d_Ps_readValue_13 : decode b_Ps_readValue 13 = .ok (.iload 5, 2) := by decide +kernel
theorem d_Ps_readValue_15 : decode b_Ps_readValue 15 = .ok (.invokevirtual 60, 3) := by decide +kernel
theorem d_Ps_readValue_18 : decode b_Ps_readValue 18 = .ok (.istore 6, 2) := by decide +kernel
theorem d_Ps_readValue_20 : decode b_Ps_readValue 20 = .ok (.iload 6, 2) := by decide +kernel
theorem d_Ps_readValue_22 : decode b_Ps_readValue 22 = .ok (.iconst (-1), 1) := by decide +kernel
theorem d_Ps_readValue_23 : decode b_Ps_readValue 23 = .ok (.if_icmp .ne 5, 3) := by decide +kernel
theorem d_Ps_readValue_26 : decode b_Ps_readValue 26 = .ok (.iconst 0, 1) := by decide +kernel
theorem d_Ps_readValue_27 : decode b_Ps_readValue 27 = .ok (.ireturn, 1) := by decide +kernel
theorem d_Ps_readValue_28 : decode b_Ps_readValue 28 = .ok (.aload_n 1, 1) := by decide +kernel
theorem d_Ps_readValue_29 : decode b_Ps_readValue 29 = .ok (.iload_n 3, 1) := by decide +kernel
theorem d_Ps_readValue_30 : decode b_Ps_readValue 30 = .ok (.iload 6, 2) := by decide +kernel
theorem d_Ps_readValue_32 : decode b_Ps_readValue 32 = .ok (.invokevirtual 71, 3) := by decide +kernel
theorem d_Ps_readValue_35 : decode b_Ps_readValue 35 = .ok (.iconst 1, 1) := by decide +kernel
theorem d_Ps_readValue_36 : decode b_Ps_readValue 36 = .ok (.ireturn, 1) := by decide +kernel
theorem d_Ps_readNumber_0 : decode b_Ps_readNumber 0 = .ok (.aload_n 0, 1) := by decide +kernel
theorem d_Ps_readNumber_1 : decode b_Ps_readNumber 1 = .ok (.getfield 18, 3) := by decide +kernel
theorem d_Ps_readNumber_4 : decode b_Ps_readNumber 4 = .ok (.istore_n 3, 1) := by decide +kernel
theorem d_Ps_readNumber_5 : decode b_Ps_readNumber 5 = .ok (.iconst 0, 1) := by decide +kernel
theorem d_Ps_readNumber_6 : decode b_Ps_readNumber 6 = .ok (.istore 4, 2) := by decide +kernel
theorem d_Ps_readNumber_8 : decode b_Ps_readNumber 8 = .ok (.iconst 0, 1) := by decide +kernel
theorem d_Ps_readNumber_9 : decode b_Ps_readNumber 9 = .ok (.istore 5, 2) := by decide +kernel
theorem d_Ps_readNumber_11 : decode b_Ps_readNumber 11 = .ok (.iload 5, 2) := by decide +kernel
theorem d_Ps_readNumber_13 : decode b_Ps_readNumber 13 = .ok (.iconst 4, 1) := by decide +kernel
theorem d_Ps_readNumber_14 : decode b_Ps_readNumber 14 = .ok (.if_icmp .ge 58, 3) := by decide +kernel
theorem d_Ps_readNumber_17 : decode b_Ps_readNumber 17 = .ok (.aload_n 0, 1) := by decide +kernel
theorem d_Ps_readNumber_18 : decode b_Ps_readNumber 18 = .ok (.getfield 12, 3) := by decide +kernel
theorem d_Ps_readNumber_21 : decode b_Ps_readNumber 21 = .ok (.aload_n 0, 1) := by decide +kernel
theorem d_Ps_readNumber_22 : decode b_Ps_readNumber 22 = .ok (.getfield 18, 3) := by decide +kernel
theorem d_Ps_readNumber_25 : decode b_Ps_readNumber 25 = .ok (.invokevirtual 34, 3) := by decide +kernel
theorem d_Ps_readNumber_28 : decode b_Ps_readNumber 28 = .ok (.invokestatic 74, 3) := by decide +kernel
theorem d_Ps_readNumber_31 : decode b_Ps_readNumber 31 = .ok (.ifCond .eq 41, 3) := by decide +kernel
theorem d_Ps_readNumber_34 : decode b_Ps_readNumber 34 = .ok (.iload 4, 2) := by decide +kernel
theorem d_Ps_readNumber_36 : decode b_Ps_readNumber 36 = .ok (.bipush 10, 2) := by decide +kernel
theorem d_Ps_readNumber_38 : decode b_Ps_readNumber 38 = .ok (.imul, 1) := by decide +kernel
theorem d_Ps_readNumber_39 : decode b_Ps_readNumber 39 = .ok (.aload_n 0, 1) := by decide +kernel
theorem d_Ps_readNumber_40 : decode b_Ps_readNumber 40 = .ok (.getfield 12, 3) := by decide +kernel
theorem d_Ps_readNumber_43 : decode b_Ps_readNumber 43 = .ok (.aload_n 0, 1) := by decide +kernel
theorem d_Ps_readNumber_44 : decode b_Ps_readNumber 44 = .ok (.getfield 18, 3) := by decide +kernel
theorem d_Ps_readNumber_47 : decode b_Ps_readNumber 47 = .ok (.invokevirtual 34, 3) := by decide +kernel
theorem d_Ps_readNumber_50 : decode b_Ps_readNumber 50 = .ok (.iadd, 1) := by decide +kernel
theorem d_Ps_readNumber_51 : decode b_Ps_readNumber 51 = .ok (.bipush 48, 2) := by decide +kernel
theorem d_Ps_readNumber_53 : decode b_Ps_readNumber 53 = .ok (.isub, 1) := by decide +kernel
theorem d_Ps_readNumber_54 : decode b_Ps_readNumber 54 = .ok (.istore 4, 2) := by decide +kernel
theorem d_Ps_readNumber_56 : decode b_Ps_readNumber 56 = .ok (.aload_n 0, 1) := by decide +kernel
theorem d_Ps_readNumber_57 : decode b_Ps_readNumber 57 = .ok (.dup, 1) := by decide +kernel
theorem d_Ps_readNumber_58 : decode b_Ps_readNumber 58 = .ok (.getfield 18, 3) := by decide +kernel
theorem d_Ps_readNumber_61 : decode b_Ps_readNumber 61 = .ok (.iconst 1, 1) := by decide +kernel
theorem d_Ps_readNumber_62 : decode b_Ps_readNumber 62 = .ok (.iadd, 1) := by decide +kernel
theorem d_Ps_readNumber_63 : decode b_Ps_readNumber 63 = .ok (.putfield 18, 3) := by decide +kernel
theorem d_Ps_readNumber_66 : decode b_Ps_readNumber 66 = .ok (.iinc 5 1, 3) := by decide +kernel
theorem d_Ps_readNumber_69 : decode b_Ps_readNumber 69 = .ok (.goto (-58), 3) := by decide +kernel
theorem d_Ps_readNumber_72 : decode b_Ps_readNumber 72 = .ok (.aload_n 0, 1) := by decide +kernel
theorem d_Ps_readNumber_73 : decode b_Ps_readNumber 73 = .ok (.getfield 18, 3) := by decide +kernel
theorem d_Ps_readNumber_76 : decode b_Ps_readNumber 76 = .ok (.iload_n 3, 1) := by decide +kernel
theorem d_Ps_readNumber_77 : decode b_Ps_readNumber 77 = .ok (.if_icmp .ne 5, 3) := by decide +kernel
theorem d_Ps_readNumber_80 : decode b_Ps_readNumber 80 = .ok (.iconst (-1), 1) := by decide +kernel
theorem d_Ps_readNumber_81 : decode b_Ps_readNumber 81 = .ok (.ireturn, 1) := by decide +kernel
theorem d_Ps_readNumber_82 : decode b_Ps_readNumber 82 = .ok (.iload 4, 2) := by decide +kernel
theorem d_Ps_readNumber_84 : decode b_Ps_readNumber 84 = .ok (.iload_n 1, 1) := by decide +kernel
theorem d_Ps_readNumber_85 : decode b_Ps_readNumber 85 = .ok (.if_icmp .lt 9, 3) := by decide +kernel
theorem d_Ps_readNumber_88 : decode b_Ps_readNumber 88 = .ok (.iload 4, 2) := by decide +kernel
theorem d_Ps_readNumber_90 : decode b_Ps_readNumber 90 = .ok (.iload_n 2, 1) := by decide +kernel
theorem d_Ps_readNumber_91 : decode b_Ps_readNumber 91 = .ok (.if_icmp .le 10, 3) := by decide +kernel
theorem d_Ps_readNumber_94 : decode b_Ps_readNumber 94 = .ok (.aload_n 0, 1) := by decide +kernel
theorem d_Ps_readNumber_95 : decode b_Ps_readNumber 95 = .ok (.iload_n 3, 1) := by decide +kernel
theorem d_Ps_readNumber_96 : decode b_Ps_readNumber 96 = .ok (.putfield 18, 3) := by decide +kernel
theorem d_Ps_readNumber_99 : decode b_Ps_readNumber 99 = .ok (.iconst (-1), 1) := by decide +kernel
theorem d_Ps_readNumber_100 : decode b_Ps_readNumber 100 = .ok (.ireturn, 1) := by decide +kernel
theorem d_Ps_readNumber_101 : decode b_Ps_readNumber 101 = .ok (.iload 4, 2) := by decide +kernel
theorem d_Ps_readNumber_103 : decode b_Ps_readNumber 103 = .ok (.ireturn, 1) := by decide +kernel
theorem d_Ps_skip_0 : decode b_Ps_skip 0 = .ok (.aload_n 0, 1) := by decide +kernel
theorem d_Ps_skip_1 : decode b_Ps_skip 1 = .ok (.getfield 12, 3) := by decide +kernel
theorem d_Ps_skip_4 : decode b_Ps_skip 4 = .ok (.aload_n 0, 1) := by decide +kernel
theorem d_Ps_skip_5 : decode b_Ps_skip 5 = .ok (.getfield 18, 3) := by decide +kernel
theorem d_Ps_skip_8 : decode b_Ps_skip 8 = .ok (.invokevirtual 34, 3) := by decide +kernel
theorem d_Ps_skip_11 : decode b_Ps_skip 11 = .ok (.iload_n 1, 1) := by decide +kernel
theorem d_Ps_skip_12 : decode b_Ps_skip 12 = .ok (.if_icmp .eq 5, 3) := by decide +kernel
theorem d_Ps_skip_15 : decode b_Ps_skip 15 = .ok (.iconst 0, 1) := by decide +kernel
theorem d_Ps_skip_16 : decode b_Ps_skip 16 = .ok (.ireturn, 1) := by decide +kernel
theorem d_Ps_skip_17 : decode b_Ps_skip 17 = .ok (.aload_n 0, 1) := by decide +kernel
theorem d_Ps_skip_18 : decode b_Ps_skip 18 = .ok (.dup, 1) := by decide +kernel
theorem d_Ps_skip_19 : decode b_Ps_skip 19 = .ok (.getfield 18, 3) := by decide +kernel
theorem d_Ps_skip_22 : decode b_Ps_skip 22 = .ok (.iconst 1, 1) := by decide +kernel
theorem d_Ps_skip_23 : decode b_Ps_skip 23 = .ok (.iadd, 1) := by decide +kernel
theorem d_Ps_skip_24 : decode b_Ps_skip 24 = .ok (.putfield 18, 3) := by decide +kernel
theorem d_Ps_skip_27 : decode b_Ps_skip 27 = .ok (.iconst 1, 1) := by decide +kernel
theorem d_Ps_skip_28 : decode b_Ps_skip 28 = .ok (.ireturn, 1) := by decide +kernel
theorem d_Ps_isDigit_0 : decode b_Ps_isDigit 0 = .ok (.iload_n 0, 1) := by decide +kernel
theorem d_Ps_isDigit_1 : decode b_Ps_isDigit 1 = .ok (.bipush 48, 2) := by decide +kernel
theorem d_Ps_isDigit_3 : decode b_Ps_isDigit 3 = .ok (.if_icmp .lt 13, 3) := by decide +kernel
theorem d_Ps_isDigit_6 : decode b_Ps_isDigit 6 = .ok (.iload_n 0, 1) := by decide +kernel
theorem d_Ps_isDigit_7 : decode b_Ps_isDigit 7 = .ok (.bipush 57, 2) := by decide +kernel
theorem d_Ps_isDigit_9 : decode b_Ps_isDigit 9 = .ok (.if_icmp .gt 7, 3) := by decide +kernel
theorem d_Ps_isDigit_12 : decode b_Ps_isDigit 12 = .ok (.iconst 1, 1) := by decide +kernel
theorem d_Ps_isDigit_13 : decode b_Ps_isDigit 13 = .ok (.goto 4, 3) := by decide +kernel
theorem d_Ps_isDigit_16 : decode b_Ps_isDigit 16 = .ok (.iconst 0, 1) := by decide +kernel
theorem d_Ps_isDigit_17 : decode b_Ps_isDigit 17 = .ok (.ireturn, 1) := by decide +kernel
theorem d_Ps_kindOf_0 : decode b_Ps_kindOf 0 = .ok (.iconst 0, 1) := by decide +kernel
theorem d_Ps_kindOf_1 : decode b_Ps_kindOf 1 = .ok (.istore_n 1, 1) := by decide +kernel
theorem d_Ps_kindOf_2 : decode b_Ps_kindOf 2 = .ok (.iload_n 1, 1) := by decide +kernel
theorem d_Ps_kindOf_3 : decode b_Ps_kindOf 3 = .ok (.getstatic 78, 3) := by decide +kernel
theorem d_Ps_kindOf_6 : decode b_Ps_kindOf 6 = .ok (.arraylength, 1) := by decide +kernel
theorem d_Ps_kindOf_7 : decode b_Ps_kindOf 7 = .ok (.if_icmp .ge 20, 3) := by decide +kernel
theorem d_Ps_kindOf_10 : decode b_Ps_kindOf 10 = .ok (.getstatic 78, 3) := by decide +kernel
theorem d_Ps_kindOf_13 : decode b_Ps_kindOf 13 = .ok (.iload_n 1, 1) := by decide +kernel
theorem d_Ps_kindOf_14 : decode b_Ps_kindOf 14 = .ok (.caload, 1) := by decide +kernel
theorem d_Ps_kindOf_15 : decode b_Ps_kindOf 15 = .ok (.iload_n 0, 1) := by decide +kernel
theorem d_Ps_kindOf_16 : decode b_Ps_kindOf 16 = .ok (.if_icmp .ne 5, 3) := by decide +kernel
theorem d_Ps_kindOf_19 : decode b_Ps_kindOf 19 = .ok (.iload_n 1, 1) := by decide +kernel
theorem d_Ps_kindOf_20 : decode b_Ps_kindOf 20 = .ok (.ireturn, 1) := by decide +kernel
theorem d_Ps_kindOf_21 : decode b_Ps_kindOf 21 = .ok (.iinc 1 1, 3) := by decide +kernel
theorem d_Ps_kindOf_24 : decode b_Ps_kindOf 24 = .ok (.goto (-22), 3) := by decide +kernel
theorem d_Ps_kindOf_27 : decode b_Ps_kindOf 27 = .ok (.iconst (-1), 1) := by decide +kernel
theorem d_Ps_kindOf_28 : decode b_Ps_kindOf 28 = .ok (.ireturn, 1) := by decide +kernel
theorem d_Pa_init_0 : decode b_Pa_init 0 = .ok (.aload_n 0, 1) := by decide +kernel
theorem d_Pa_init_1 : decode b_Pa_init 1 = .ok (.invokespecial 3, 3) := by decide +kernel
theorem d_Pa_init_4 : decode b_Pa_init 4 = .ok (.aload_n 0, 1) := by decide +kernel
theorem d_Pa_init_5 : decode b_Pa_init 5 = .ok (.bipush 24, 2) := by decide +kernel
theorem d_Pa_init_7 : decode b_Pa_init 7 = .ok (.bipush 24, 2) := by decide +kernel
theorem d_Pa_init_9 : decode b_Pa_init 9 = .ok (.multianewarray 9 2, 4) := by decide +kernel
theorem d_Pa_init_13 : decode b_Pa_init 13 = .ok (.putfield 11, 3) := by decide +kernel
theorem d_Pa_init_16 : decode b_Pa_init 16 = .ok (.return_, 1) := by decide +kernel
theorem d_Pa_follow_0 : decode b_Pa_follow 0 = .ok (.aload_n 0, 1) := by decide +kernel
theorem d_Pa_follow_1 : decode b_Pa_follow 1 = .ok (.invokevirtual 16, 3) := by decide +kernel
theorem d_Pa_follow_4 : decode b_Pa_follow 4 = .ok (.iconst 0, 1) := by decide +kernel
theorem d_Pa_follow_5 : decode b_Pa_follow 5 = .ok (.istore_n 2, 1) := by decide +kernel
theorem d_Pa_follow_6 : decode b_Pa_follow 6 = .ok (.iload_n 2, 1) := by decide +kernel
theorem d_Pa_follow_7 : decode b_Pa_follow 7 = .ok (.aload_n 1, 1) := by decide +kernel
theorem d_Pa_follow_8 : decode b_Pa_follow 8 = .ok (.getfield 19, 3) := by decide +kernel
theorem d_Pa_follow_11 : decode b_Pa_follow 11 = .ok (.if_icmp .ge 38, 3) := by decide +kernel
theorem d_Pa_follow_14 : decode b_Pa_follow 14 = .ok (.iconst 0, 1) := by decide +kernel
theorem d_Pa_follow_15 : decode b_Pa_follow 15 = .ok (.istore_n 3, 1) := by decide +kernel
theorem d_Pa_follow_16 : decode b_Pa_follow 16 = .ok (.iload_n 3, 1) := by decide +kernel
theorem d_Pa_follow_17 : decode b_Pa_follow 17 = .ok (.iconst 2, 1) := by decide +kernel
theorem d_Pa_follow_18 : decode b_Pa_follow 18 = .ok (.if_icmp .ge 25, 3) := by decide +kernel
theorem d_Pa_follow_21 : decode b_Pa_follow 21 = .ok (.aload_n 0, 1) := by decide +kernel
theorem d_Pa_follow_22 : decode b_Pa_follow 22 = .ok (.iload_n 2, 1) := by decide +kernel
theorem d_Pa_follow_23 : decode b_Pa_follow 23 = .ok (.aload_n 1, 1) := by decide +kernel
theorem d_Pa_follow_24 : decode b_Pa_follow 24 = .ok (.iload_n 2, 1) := by decide +kernel
theorem d_Pa_follow_25 : decode b_Pa_follow 25 = .ok (.iload_n 3, 1) := by decide +kernel
theorem d_Pa_follow_26 : decode b_Pa_follow 26 = .ok (.invokevirtual 25, 3) := by decide +kernel
theorem d_Pa_follow_29 : decode b_Pa_follow 29 = .ok (.aload_n 1, 1) := by decide +kernel
theorem d_Pa_follow_30 : decode b_Pa_follow 30 = .ok (.iload_n 2, 1) := by decide +kernel
theorem d_Pa_follow_31 : decode b_Pa_follow 31 = .ok (.invokevirtual 29, 3) := by decide +kernel
theorem d_Pa_follow_34 : decode b_Pa_follow 34 = .ok (.invokevirtual 33, 3) := by decide +kernel
theorem d_Pa_follow_37 : decode b_Pa_follow 37 = .ok (.iinc 3 1, 3) := by decide +kernel
theorem d_Pa_follow_40 : decode b_Pa_follow 40 = .ok (.goto (-24), 3) := by decide +kernel
theorem d_Pa_follow_43 : decode b_Pa_follow 43 = .ok (.iinc 2 1, 3) := by decide +kernel
theorem d_Pa_follow_46 : decode b_Pa_follow 46 = .ok (.goto (-40), 3) := by decide +kernel
theorem d_Pa_follow_49 : decode b_Pa_follow 49 = .ok (.iconst 0, 1) := by decide +kernel
theorem d_Pa_follow_50 : decode b_Pa_follow 50 = .ok (.istore_n 2, 1) := by decide +kernel
theorem d_Pa_follow_51 : decode b_Pa_follow 51 = .ok (.iload_n 2, 1) := by decide +kernel
theorem d_Pa_follow_52 : decode b_Pa_follow 52 = .ok (.aload_n 1, 1) := by decide +kernel
theorem d_Pa_follow_53 : decode b_Pa_follow 53 = .ok (.getfield 19, 3) := by decide +kernel
theorem d_Pa_follow_56 : decode b_Pa_follow 56 = .ok (.if_icmp .ge 35, 3) := by decide +kernel
theorem d_Pa_follow_59 : decode b_Pa_follow 59 = .ok (.iconst 0, 1) := by decide +kernel
theorem d_Pa_follow_60 : decode b_Pa_follow 60 = .ok (.istore_n 3, 1) := by decide +kernel
theorem d_Pa_follow_61 : decode b_Pa_follow 61 = .ok (.iload_n 3, 1) := by decide +kernel
theorem d_Pa_follow_62 : decode b_Pa_follow 62 = .ok (.aload_n 1, 1) := by decide +kernel
theorem d_Pa_follow_63 : decode b_Pa_follow 63 = .ok (.getfield 19, 3) := by decide +kernel
theorem d_Pa_follow_66 : decode b_Pa_follow 66 = .ok (.if_icmp .ge 19, 3) := by decide +kernel
theorem d_Pa_follow_69 : decode b_Pa_follow 69 = .ok (.aload_n 0, 1) := by decide +kernel
theorem d_Pa_follow_70 : decode b_Pa_follow 70 = .ok (.iload_n 2, 1) := by decide +kernel
theorem d_Pa_follow_71 : decode b_Pa_follow 71 = .ok (.iload_n 3, 1) := by decide +kernel
theorem d_Pa_follow_72 : decode b_Pa_follow 72 = .ok (.aload_n 1, 1) := by decide +kernel
theorem d_Pa_follow_73 : decode b_Pa_follow 73 = .ok (.getfield 19, 3) := by decide +kernel
theorem d_Pa_follow_76 : decode b_Pa_follow 76 = .ok (.invokevirtual 37, 3) := by decide +kernel
theorem d_Pa_follow_79 : decode b_Pa_follow 79 = .ok (.iinc 3 1, 3) := by decide +kernel
theorem d_Pa_follow_82 : decode b_Pa_follow 82 = .ok (.goto (-21), 3) := by decide +kernel
theorem d_Pa_follow_85 : decode b_Pa_follow 85 = .ok (.iinc 2 1, 3) := by decide +kernel
theorem d_Pa_follow_88 : decode b_Pa_follow 88 = .ok (.goto (-37), 3) := by decide +kernel
theorem d_Pa_follow_91 : decode b_Pa_follow 91 = .ok (.return_, 1) := by decide +kernel
theorem d_Pa_forget_0 : decode b_Pa_forget 0 = .ok (.iconst 0, 1) := by decide +kernel
theorem d_Pa_forget_1 : decode b_Pa_forget 1 = .ok (.istore_n 1, 1) := by decide +kernel
theorem d_Pa_forget_2 : decode b_Pa_forget 2 = .ok (.iload_n 1, 1) := by decide +kernel
theorem d_Pa_forget_3 : decode b_Pa_forget 3 = .ok (.bipush 24, 2) := by decide +kernel
theorem d_Pa_forget_5 : decode b_Pa_forget 5 = .ok (.if_icmp .ge 32, 3) := by decide +kernel
theorem d_Pa_forget_8 : decode b_Pa_forget 8 = .ok (.iconst 0, 1) := by decide +kernel
theorem d_Pa_forget_9 : decode b_Pa_forget 9 = .ok (.istore_n 2, 1) := by decide +kernel
theorem d_Pa_forget_10 : decode b_Pa_forget 10 = .ok (.iload_n 2, 1) := by decide +kernel
theorem d_Pa_forget_11 : decode b_Pa_forget 11 = .ok (.bipush 24, 2) := by decide +kernel
theorem d_Pa_forget_13 : decode b_Pa_forget 13 = .ok (.if_icmp .ge 18, 3) := by decide +kernel
theorem d_Pa_forget_16 : decode b_Pa_forget 16 = .ok (.aload_n 0, 1) := by decide +kernel
theorem d_Pa_forget_17 : decode b_Pa_forget 17 = .ok (.getfield 11, 3) := by decide +kernel
theorem d_Pa_forget_20 : decode b_Pa_forget 20 = .ok (.iload_n 1, 1) := by decide +kernel
theorem d_Pa_forget_21 : decode b_Pa_forget 21 = .ok (.aaload, 1) := by decide +kernel
theorem d_Pa_forget_22 : decode b_Pa_forget 22 = .ok (.iload_n 2, 1) := by decide +kernel
theorem d_Pa_forget_23 : decode b_Pa_forget 23 = .ok (.iconst (-1), 1) := by decide +kernel
theorem d_Pa_forget_24 : decode b_Pa_forget 24 = .ok (.iastore, 1) := by decide +kernel
theorem d_Pa_forget_25 : decode b_Pa_forget 25 = .ok (.iinc 2 1, 3) := by decide +kernel
theorem d_Pa_forget_28 : decode b_Pa_forget 28 = .ok (.goto (-18), 3) := by decide +kernel
theorem d_Pa_forget_31 : decode b_Pa_forget 31 = .ok (.iinc 1 1, 3) := by decide +kernel
theorem d_Pa_forget_34 : decode b_Pa_forget 34 = .ok (.goto (-32), 3) := by decide +kernel
theorem d_Pa_forget_37 : decode b_Pa_forget 37 = .ok (.return_, 1) := by decide +kernel
theorem d_Pa_joinAt_0 : decode b_Pa_joinAt 0 = .ok (.aload_n 0, 1) := by decide +kernel
theorem d_Pa_joinAt_1 : decode b_Pa_joinAt 1 = .ok (.iload_n 2, 1) := by decide +kernel
theorem d_Pa_joinAt_2 : decode b_Pa_joinAt 2 = .ok (.iload_n 1, 1) := by decide +kernel
theorem d_Pa_joinAt_3 : decode b_Pa_joinAt 3 = .ok (.invokevirtual 40, 3) := by decide +kernel
theorem d_Pa_joinAt_6 : decode b_Pa_joinAt 6 = .ok (.istore 4, 2) := by decide +kernel
theorem d_Pa_joinAt_8 : decode b_Pa_joinAt 8 = .ok (.iload 4, 2) := by decide +kernel
theorem d_Pa_joinAt_10 : decode b_Pa_joinAt 10 = .ok (.iconst (-1), 1) := by decide +kernel
theorem d_Pa_joinAt_11 : decode b_Pa_joinAt 11 = .ok (.if_icmp .ne 4, 3) := by decide +kernel
theorem d_Pa_joinAt_14 : decode b_Pa_joinAt 14 = .ok (.return_, 1) := by decide +kernel
theorem d_Pa_joinAt_15 : decode b_Pa_joinAt 15 = .ok (.iconst 0, 1) := by decide +kernel
theorem d_Pa_joinAt_16 : decode b_Pa_joinAt 16 = .ok (.istore 5, 2) := by decide +kernel
theorem d_Pa_joinAt_18 : decode b_Pa_joinAt 18 = .ok (.iload 5, 2) := by decide +kernel
theorem d_Pa_joinAt_20 : decode b_Pa_joinAt 20 = .ok (.iload_n 3, 1) := by decide +kernel
theorem d_Pa_joinAt_21 : decode b_Pa_joinAt 21 = .ok (.if_icmp .ge 36, 3) := by decide +kernel
theorem d_Pa_joinAt_24 : decode b_Pa_joinAt 24 = .ok (.aload_n 0, 1) := by decide +kernel
theorem d_Pa_joinAt_25 : decode b_Pa_joinAt 25 = .ok (.iload_n 1, 1) := by decide +kernel
theorem d_Pa_joinAt_26 : decode b_Pa_joinAt 26 = .ok (.iload 5, 2) := by decide +kernel
theorem d_Pa_joinAt_28 : decode b_Pa_joinAt 28 = .ok (.invokevirtual 40, 3) := by decide +kernel
theorem d_Pa_joinAt_31 : decode b_Pa_joinAt 31 = .ok (.istore 6, 2) := by decide +kernel
theorem d_Pa_joinAt_33 : decode b_Pa_joinAt 33 = .ok (.iload 6, 2) := by decide +kernel
theorem d_Pa_joinAt_35 : decode b_Pa_joinAt 35 = .ok (.iconst (-1), 1) := by decide +kernel
theorem d_Pa_joinAt_36 : decode b_Pa_joinAt 36 = .ok (.if_icmp .eq 15, 3) := by decide +kernel
theorem d_Pa_joinAt_39 : decode b_Pa_joinAt 39 = .ok (.aload_n 0, 1) := by decide +kernel
theorem d_Pa_joinAt_40 : decode b_Pa_joinAt 40 = .ok (.iload_n 2, 1) := by decide +kernel
theorem d_Pa_joinAt_41 : decode b_Pa_joinAt 41 = .ok (.iload 5, 2) := by decide +kernel
theorem d_Pa_joinAt_43 : decode b_Pa_joinAt 43 = .ok (.iload 4, 2) := by decide +kernel
theorem d_Pa_joinAt_45 : decode b_Pa_joinAt 45 = .ok (.iload 6, 2) := by decide +kernel
theorem d_Pa_joinAt_47 : decode b_Pa_joinAt 47 = .ok (.iadd, 1) := by decide +kernel
theorem d_Pa_joinAt_48 : decode b_Pa_joinAt 48 = .ok (.invokevirtual 33, 3) := by decide +kernel
theorem d_Pa_joinAt_51 : decode b_Pa_joinAt 51 = .ok (.iinc 5 1, 3) := by decide +kernel
theorem d_Pa_joinAt_54 : decode b_Pa_joinAt 54 = .ok (.goto (-36), 3) := by decide +kernel
theorem d_Pa_joinAt_57 : decode b_Pa_joinAt 57 = .ok (.return_, 1) := by decide +kernel
theorem d_Pa_shorten_0 : decode b_Pa_shorten 0 = .ok (.iload_n 1, 1) := by decide +kernel
theorem d_Pa_shorten_1 : decode b_Pa_shorten 1 = .ok (.ifCond .lt 19, 3) := by decide +kernel
theorem d_Pa_shorten_4 : decode b_Pa_shorten 4 = .ok (.iload_n 1, 1) := by decide +kernel
theorem d_Pa_shorten_5 : decode b_Pa_shorten 5 = .ok (.bipush 24, 2) := by decide +kernel
theorem d_Pa_shorten_7 : decode b_Pa_shorten 7 = .ok (.if_icmp .ge 13, 3) := by decide +kernel
theorem d_Pa_shorten_10 : decode b_Pa_shorten 10 = .ok (.iload_n 2, 1) := by decide +kernel
theorem d_Pa_shorten_11 : decode b_Pa_shorten 11 = .ok (.ifCond .lt 9, 3) := by decide +kernel
theorem d_Pa_shorten_14 : decode b_Pa_shorten 14 = .ok (.iload_n 2, 1) := by decide +kernel
theorem d_Pa_shorten_15 : decode b_Pa_shorten 15 = .ok (.bipush 24, 2) := by decide +kernel
theorem d_Pa_shorten_17 : decode b_Pa_shorten 17 = .ok (.if_icmp .lt 4, 3) := by decide +kernel
theorem d_Pa_shorten_20 : decode b_Pa_shorten 20 = .ok (.return_, 1) := by decide +kernel
theorem d_Pa_shorten_21 : decode b_Pa_shorten 21 = .ok (.aload_n 0, 1) := by decide +kernel
theorem d_Pa_shorten_22 : decode b_Pa_shorten 22 = .ok (.getfield 11, 3) := by decide +kernel
theorem d_Pa_shorten_25 : decode b_Pa_shorten 25 = .ok (.iload_n 1, 1) := by decide +kernel
theorem d_Pa_shorten_26 : decode b_Pa_shorten 26 = .ok (.aaload, 1) := by decide +kernel
theorem d_Pa_shorten_27 : decode b_Pa_shorten 27 = .ok (.iload_n 2, 1) := by decide +kernel
theorem d_Pa_shorten_28 : decode b_Pa_shorten 28 = .ok (.iaload, 1) := by decide +kernel
theorem d_Pa_shorten_29 : decode b_Pa_shorten 29 = .ok (.iconst (-1), 1) := by decide +kernel
theorem d_Pa_shorten_30 : decode b_Pa_shorten 30 = .ok (.if_icmp .eq 15, 3) := by decide +kernel
theorem d_Pa_shorten_33 : decode b_Pa_shorten 33 = .ok (.iload_n 3, 1) := by decide +kernel
theorem d_Pa_shorten_34 : decode b_Pa_shorten 34 = .ok (.aload_n 0, 1) := by decide +kernel
theorem d_Pa_shorten_35 : decode b_Pa_shorten 35 = .ok (.getfield 11, 3) := by decide +kernel
theorem d_Pa_shorten_38 : decode b_Pa_shorten 38 = .ok (.iload_n 1, 1) := by decide +kernel
theorem d_Pa_shorten_39 : decode b_Pa_shorten 39 = .ok (.aaload, 1) := by decide +kernel
theorem d_Pa_shorten_40 : decode b_Pa_shorten 40 = .ok (.iload_n 2, 1) := by decide +kernel
theorem d_Pa_shorten_41 : decode b_Pa_shorten 41 = .ok (.iaload, 1) := by decide +kernel
theorem d_Pa_shorten_42 : decode b_Pa_shorten 42 = .ok (.if_icmp .ge 12, 3) := by decide +kernel
theorem d_Pa_shorten_45 : decode b_Pa_shorten 45 = .ok (.aload_n 0, 1) := by decide +kernel
theorem d_Pa_shorten_46 : decode b_Pa_shorten 46 = .ok (.getfield 11, 3) := by decide +kernel
theorem d_Pa_shorten_49 : decode b_Pa_shorten 49 = .ok (.iload_n 1, 1) := by decide +kernel
theorem d_Pa_shorten_50 : decode b_Pa_shorten 50 = .ok (.aaload, 1) := by decide +kernel
theorem d_Pa_shorten_51 : decode b_Pa_shorten 51 = .ok (.iload_n 2, 1) := by decide +kernel
theorem d_Pa_shorten_52 : decode b_Pa_shorten 52 = .ok (.iload_n 3, 1) := by decide +kernel
theorem d_Pa_shorten_53 : decode b_Pa_shorten 53 = .ok (.iastore, 1) := by decide +kernel
theorem d_Pa_shorten_54 : decode b_Pa_shorten 54 = .ok (.return_, 1) := by decide +kernel
theorem d_Pa_leastTime_0 : decode b_Pa_leastTime 0 = .ok (.iload_n 1, 1) := by decide +kernel
theorem d_Pa_leastTime_1 : decode b_Pa_leastTime 1 = .ok (.ifCond .lt 19, 3) := by decide +kernel
theorem d_Pa_leastTime_4 : decode b_Pa_leastTime 4 = .ok (.iload_n 1, 1) := by decide +kernel
theorem d_Pa_leastTime_5 : decode b_Pa_leastTime 5 = .ok (.bipush 24, 2) := by decide +kernel
theorem d_Pa_leastTime_7 : decode b_Pa_leastTime 7 = .ok (.if_icmp .ge 13, 3) := by decide +kernel
theorem d_Pa_leastTime_10 : decode b_Pa_leastTime 10 = .ok (.iload_n 2, 1) := by decide +kernel
theorem d_Pa_leastTime_11 : decode b_Pa_leastTime 11 = .ok (.ifCond .lt 9, 3) := by decide +kernel
theorem d_Pa_leastTime_14 : decode b_Pa_leastTime 14 = .ok (.iload_n 2, 1) := by decide +kernel
theorem d_Pa_leastTime_15 : decode b_Pa_leastTime 15 = .ok (.bipush 24, 2) := by decide +kernel
theorem d_Pa_leastTime_17 : decode b_Pa_leastTime 17 = .ok (.if_icmp .lt 5, 3) := by decide +kernel
theorem d_Pa_leastTime_20 : decode b_Pa_leastTime 20 = .ok (.iconst (-1), 1) := by decide +kernel
theorem d_Pa_leastTime_21 : decode b_Pa_leastTime 21 = .ok (.ireturn, 1) := by decide +kernel
theorem d_Pa_leastTime_22 : decode b_Pa_leastTime 22 = .ok (.aload_n 0, 1) := by decide +kernel
theorem d_Pa_leastTime_23 : decode b_Pa_leastTime 23 = .ok (.getfield 11, 3) := by decide +kernel
theorem d_Pa_leastTime_26 : decode b_Pa_leastTime 26 = .ok (.iload_n 1, 1) := by decide +kernel
theorem d_Pa_leastTime_27 : decode b_Pa_leastTime 27 = .ok (.aaload, 1) := by decide +kernel
theorem d_Pa_leastTime_28 : decode b_Pa_leastTime 28 = .ok (.iload_n 2, 1) := by decide +kernel
theorem d_Pa_leastTime_29 : decode b_Pa_leastTime 29 = .ok (.iaload, 1) := by decide +kernel
theorem d_Pa_leastTime_30 : decode b_Pa_leastTime 30 = .ok (.ireturn, 1) := by decide +kernel
theorem d_Pa_leads_0 : decode b_Pa_leads 0 = .ok (.aload_n 0, 1) := by decide +kernel
theorem d_Pa_leads_1 : decode b_Pa_leads 1 = .ok (.iload_n 1, 1) := by decide +kernel
theorem d_Pa_leads_2 : decode b_Pa_leads 2 = .ok (.iload_n 2, 1) := by decide +kernel
theorem d_Pa_leads_3 : decode b_Pa_leads 3 = .ok (.invokevirtual 40, 3) := by decide +kernel
theorem d_Pa_leads_6 : decode b_Pa_leads 6 = .ok (.iconst (-1), 1) := by decide +kernel
theorem d_Pa_leads_7 : decode b_Pa_leads 7 = .ok (.if_icmp .eq 7, 3) := by decide +kernel
theorem d_Pa_leads_10 : decode b_Pa_leads 10 = .ok (.iconst 1, 1) := by decide +kernel
theorem d_Pa_leads_11 : decode b_Pa_leads 11 = .ok (.goto 4, 3) := by decide +kernel
theorem d_Pa_leads_14 : decode b_Pa_leads 14 = .ok (.iconst 0, 1) := by decide +kernel
theorem d_Pa_leads_15 : decode b_Pa_leads 15 = .ok (.ireturn, 1) := by decide +kernel
theorem d_Pa_isReached_0 : decode b_Pa_isReached 0 = .ok (.iconst 0, 1) := by decide +kernel
theorem d_Pa_isReached_1 : decode b_Pa_isReached 1 = .ok (.istore_n 3, 1) := by decide +kernel
theorem d_Pa_isReached_2 : decode b_Pa_isReached 2 = .ok (.iload_n 3, 1) := by decide +kernel
theorem d_Pa_isReached_3 : decode b_Pa_isReached 3 = .ok (.aload_n 1, 1) := by decide +kernel
theorem d_Pa_isReached_4 : decode b_Pa_isReached 4 = .ok (.getfield 19, 3) := by decide +kernel
theorem d_Pa_isReached_7 : decode b_Pa_isReached 7 = .ok (.if_icmp .ge 20, 3) := by decide +kernel
theorem d_Pa_isReached_10 : decode b_Pa_isReached 10 = .ok (.aload_n 0, 1) := by decide +kernel
theorem d_Pa_isReached_11 : decode b_Pa_isReached 11 = .ok (.iload_n 3, 1) := by decide +kernel
theorem d_Pa_isReached_12 : decode b_Pa_isReached 12 = .ok (.iload_n 2, 1) := by decide +kernel
theorem d_Pa_isReached_13 : decode b_Pa_isReached 13 = .ok (.invokevirtual 43, 3) := by decide +kernel
theorem d_Pa_isReached_16 : decode b_Pa_isReached 16 = .ok (.ifCond .eq 5, 3) := by decide +kernel
theorem d_Pa_isReached_19 : decode b_Pa_isReached 19 = .ok (.iconst 1, 1) := by decide +kernel
theorem d_Pa_isReached_20 : decode b_Pa_isReached 20 = .ok (.ireturn, 1) := by decide +kernel
theorem d_Pa_isReached_21 : decode b_Pa_isReached 21 = .ok (.iinc 3 1, 3) := by decide +kernel
theorem d_Pa_isReached_24 : decode b_Pa_isReached 24 = .ok (.goto (-22), 3) := by decide +kernel
theorem d_Pa_isReached_27 : decode b_Pa_isReached 27 = .ok (.iconst 0, 1) := by decide +kernel
theorem d_Pa_isReached_28 : decode b_Pa_isReached 28 = .ok (.ireturn, 1) := by decide +kernel
theorem d_Pa_leastGap_0 : decode b_Pa_leastGap 0 = .ok (.iconst (-1), 1) := by decide +kernel
theorem d_Pa_leastGap_1 : decode b_Pa_leastGap 1 = .ok (.istore_n 3, 1) := by decide +kernel
theorem d_Pa_leastGap_2 : decode b_Pa_leastGap 2 = .ok (.iconst 0, 1) := by decide +kernel
theorem d_Pa_leastGap_3 : decode b_Pa_leastGap 3 = .ok (.istore 4, 2) := by decide +kernel
theorem d_Pa_leastGap_5 : decode b_Pa_leastGap 5 = .ok (.iload 4, 2) := by decide +kernel
theorem d_Pa_leastGap_7 : decode b_Pa_leastGap 7 = .ok (.aload_n 1, 1) := by decide +kernel
theorem d_Pa_leastGap_8 : decode b_Pa_leastGap 8 = .ok (.getfield 19, 3) := by decide +kernel
theorem d_Pa_leastGap_11 : decode b_Pa_leastGap 11 = .ok (.if_icmp .ge 56, 3) := by decide +kernel
theorem d_Pa_leastGap_14 : decode b_Pa_leastGap 14 = .ok (.aload_n 1, 1) := by decide +kernel
theorem d_Pa_leastGap_15 : decode b_Pa_leastGap 15 = .ok (.iload 4, 2) := by decide +kernel
theorem d_Pa_leastGap_17 : decode b_Pa_leastGap 17 = .ok (.iconst 0, 1) := by decide +kernel
theorem d_Pa_leastGap_18 : decode b_Pa_leastGap 18 = .ok (.invokevirtual 47, 3) := by decide +kernel
theorem d_Pa_leastGap_21 : decode b_Pa_leastGap 21 = .ok (.ifCond .ne 40, 3) := by decide +kernel
theorem d_Pa_leastGap_24 : decode b_Pa_leastGap 24 = .ok (.aload_n 0, 1) := by decide +kernel
theorem d_Pa_leastGap_25 : decode b_Pa_leastGap 25 = .ok (.iload 4, 2) := by decide +kernel
theorem d_Pa_leastGap_27 : decode b_Pa_leastGap 27 = .ok (.iload_n 2, 1) := by decide +kernel
theorem d_Pa_leastGap_28 : decode b_Pa_leastGap 28 = .ok (.invokevirtual 43, 3) := by decide +kernel
theorem d_Pa_leastGap_31 : decode b_Pa_leastGap 31 = .ok (.ifCond .eq 30, 3) := by decide +kernel
theorem d_Pa_leastGap_34 : decode b_Pa_leastGap 34 = .ok (.aload_n 1, 1) := by decide +kernel
theorem d_Pa_leastGap_35 : decode b_Pa_leastGap 35 = .ok (.iload 4, 2) := by decide +kernel
theorem d_Pa_leastGap_37 : decode b_Pa_leastGap 37 = .ok (.iconst 2, 1) := by decide +kernel
theorem d_Pa_leastGap_38 : decode b_Pa_leastGap 38 = .ok (.invokevirtual 47, 3) := by decide +kernel
theorem d_Pa_leastGap_41 : decode b_Pa_leastGap 41 = .ok (.istore 5, 2) := by decide +kernel
theorem d_Pa_leastGap_43 : decode b_Pa_leastGap 43 = .ok (.iload_n 3, 1) := by decide +kernel
theorem d_Pa_leastGap_44 : decode b_Pa_leastGap 44 = .ok (.iconst (-1), 1) := by decide +kernel
theorem d_Pa_leastGap_45 : decode b_Pa_leastGap 45 = .ok (.if_icmp .eq 9, 3) := by decide +kernel
theorem d_Pa_leastGap_48 : decode b_Pa_leastGap 48 = .ok (.iload 5, 2) := by decide +kernel
theorem d_Pa_leastGap_50 : decode b_Pa_leastGap 50 = .ok (.iload_n 3, 1) := by decide +kernel
theorem d_Pa_leastGap_51 : decode b_Pa_leastGap 51 = .ok (.if_icmp .ge 8, 3) := by decide +kernel
theorem d_Pa_leastGap_54 : decode b_Pa_leastGap 54 = .ok (.iload 5, 2) := by decide +kernel
theorem d_Pa_leastGap_56 : decode b_Pa_leastGap 56 = .ok (.goto 4, 3) := by decide +kernel
theorem d_Pa_leastGap_59 : decode b_Pa_leastGap 59 = .ok (.iload_n 3, 1) := by decide +kernel
theorem d_Pa_leastGap_60 : decode b_Pa_leastGap 60 = .ok (.istore_n 3, 1) := by decide +kernel
theorem d_Pa_leastGap_61 : decode b_Pa_leastGap 61 = .ok (.iinc 4 1, 3) := by decide +kernel
theorem d_Pa_leastGap_64 : decode b_Pa_leastGap 64 = .ok (.goto (-59), 3) := by decide +kernel
theorem d_Pa_leastGap_67 : decode b_Pa_leastGap 67 = .ok (.iload_n 3, 1) := by decide +kernel
theorem d_Pa_leastGap_68 : decode b_Pa_leastGap 68 = .ok (.ireturn, 1) := by decide +kernel
theorem d_Fl_init_0 : decode b_Fl_init 0 = .ok (.aload_n 0, 1) := by decide +kernel
theorem d_Fl_init_1 : decode b_Fl_init 1 = .ok (.invokespecial 3, 3) := by decide +kernel
theorem d_Fl_init_4 : decode b_Fl_init 4 = .ok (.aload_n 0, 1) := by decide +kernel
theorem d_Fl_init_5 : decode b_Fl_init 5 = .ok (.iconst 3, 1) := by decide +kernel
theorem d_Fl_init_6 : decode b_Fl_init 6 = .ok (.sipush 168, 3) := by decide +kernel
theorem d_Fl_init_9 : decode b_Fl_init 9 = .ok (.multianewarray 9 2, 4) := by decide +kernel
theorem d_Fl_init_13 : decode b_Fl_init 13 = .ok (.putfield 11, 3) := by decide +kernel
theorem d_Fl_init_16 : decode b_Fl_init 16 = .ok (.aload_n 0, 1) := by decide +kernel
theorem d_Fl_init_17 : decode b_Fl_init 17 = .ok (.iconst 0, 1) := by decide +kernel
theorem d_Fl_init_18 : decode b_Fl_init 18 = .ok (.putfield 16, 3) := by decide +kernel
theorem d_Fl_init_21 : decode b_Fl_init 21 = .ok (.return_, 1) := by decide +kernel
theorem d_Fl_find_0 : decode b_Fl_find 0 = .ok (.aload_n 0, 1) := by decide +kernel
theorem d_Fl_find_1 : decode b_Fl_find 1 = .ok (.iconst 0, 1) := by decide +kernel
theorem d_Fl_find_2 : decode b_Fl_find 2 = .ok (.putfield 16, 3) := by decide +kernel
theorem d_Fl_find_5 : decode b_Fl_find 5 = .ok (.aload_n 0, 1) := by decide +kernel
theorem d_Fl_find_6 : decode b_Fl_find 6 = .ok (.aload_n 1, 1) := by decide +kernel
theorem d_Fl_find_7 : decode b_Fl_find 7 = .ok (.invokevirtual 20, 3) := by decide +kernel
theorem d_Fl_find_10 : decode b_Fl_find 10 = .ok (.iconst 2, 1) := by decide +kernel
theorem d_Fl_find_11 : decode b_Fl_find 11 = .ok (.istore_n 3, 1) := by decide +kernel
theorem d_Fl_find_12 : decode b_Fl_find 12 = .ok (.iload_n 3, 1) := by decide +kernel
theorem d_Fl_find_13 : decode b_Fl_find 13 = .ok (.bipush 6, 2) := by decide +kernel
theorem d_Fl_find_15 : decode b_Fl_find 15 = .ok (.if_icmp .gt 51, 3) := by decide +kernel
theorem d_Fl_find_18 : decode b_Fl_find 18 = .ok (.iconst 0, 1) := by decide +kernel
theorem d_Fl_find_19 : decode b_Fl_find 19 = .ok (.istore 4, 2) := by decide +kernel
theorem d_Fl_find_21 : decode b_Fl_find 21 = .ok (.iload 4, 2) := by decide +kernel
theorem d_Fl_find_23 : decode b_Fl_find 23 = .ok (.aload_n 1, 1) := by decide +kernel
theorem d_Fl_find_24 : decode b_Fl_find 24 = .ok (.getfield 24, 3) := by decide +kernel
theorem d_Fl_find_27 : decode b_Fl_find 27 = .ok (.if_icmp .ge 33, 3) := by decide +kernel
theorem d_Fl_find_30 : decode b_Fl_find 30 = .ok (.iload_n 3, 1) := by decide +kernel
theorem d_Fl_find_31 : decode b_Fl_find 31 = .ok (.aload_n 1, 1) := by decide +kernel
theorem d_Fl_find_32 : decode b_Fl_find 32 = .ok (.aload_n 2, 1) := by decide +kernel
theorem d_Fl_find_33 : decode b_Fl_find 33 = .ok (.iload 4, 2) := by decide +kernel
theorem d_Fl_find_35 : decode b_Fl_find 35 = .ok (.invokestatic 27, 3) := by decide +kernel
theorem d_Fl_find_38 : decode b_Fl_find 38 = .ok (.ifCond .eq 16, 3) := by decide +kernel
theorem d_Fl_find_41 : decode b_Fl_find 41 = .ok (.aload_n 0, 1) := by decide +kernel
theorem d_Fl_find_42 : decode b_Fl_find 42 = .ok (.iload_n 3, 1) := by decide +kernel
theorem d_Fl_find_43 : decode b_Fl_find 43 = .ok (.aload_n 1, 1) := by decide +kernel
theorem d_Fl_find_44 : decode b_Fl_find 44 = .ok (.iload 4, 2) := by decide +kernel
theorem d_Fl_find_46 : decode b_Fl_find 46 = .ok (.iconst 1, 1) := by decide +kernel
theorem d_Fl_find_47 : decode b_Fl_find 47 = .ok (.invokevirtual 31, 3) := by decide +kernel
theorem d_Fl_find_50 : decode b_Fl_find 50 = .ok (.iconst (-1), 1) := by decide +kernel
theorem d_Fl_find_51 : decode b_Fl_find 51 = .ok (.invokevirtual 35, 3) := by decide +kernel
theorem d_Fl_find_54 : decode b_Fl_find 54 = .ok (.iinc 4 1, 3) := by decide +kernel
theorem d_Fl_find_57 : decode b_Fl_find 57 = .ok (.goto (-36), 3) := by decide +kernel
theorem d_Fl_find_60 : decode b_Fl_find 60 = .ok (.iinc 3 1, 3) := by decide +kernel
theorem d_Fl_find_63 : decode b_Fl_find 63 = .ok (.goto (-51), 3) := by decide +kernel
theorem d_Fl_find_66 : decode b_Fl_find 66 = .ok (.return_, 1) := by decide +kernel
theorem d_Fl_findWaysToNowhere_0 : decode b_Fl_findWaysToNowhere 0 = .ok (.iconst 0, 1) := by decide +kernel
theorem d_Fl_findWaysToNowhere_1 : decode b_Fl_findWaysToNowhere 1 = .ok (.istore_n 2, 1) := by decide +kernel
theorem d_Fl_findWaysToNowhere_2 : decode b_Fl_findWaysToNowhere 2 = .ok (.iload_n 2, 1) := by decide +kernel
theorem d_Fl_findWaysToNowhere_3 : decode b_Fl_findWaysToNowhere 3 = .ok (.aload_n 1, 1) := by decide +kernel
theorem d_Fl_findWaysToNowhere_4 : decode b_Fl_findWaysToNowhere 4 = .ok (.getfield 24, 3) := by decide +kernel
theorem d_Fl_findWaysToNowhere_7 : decode b_Fl_findWaysToNowhere 7 = .ok (.if_icmp .ge 53, 3) := by decide +kernel
theorem d_Fl_findWaysToNowhere_10 : decode b_Fl_findWaysToNowhere 10 = .ok (.iconst 0, 1) := by decide +kernel
theorem d_Fl_findWaysToNowhere_11 : decode b_Fl_findWaysToNowhere 11 = .ok (.istore_n 3, 1) := by decide +kernel
theorem d_Fl_findWaysToNowhere_12 : decode b_Fl_findWaysToNowhere 12 = .ok (.iload_n 3, 1) := by decide +kernel
theorem d_Fl_findWaysToNowhere_13 : decode b_Fl_findWaysToNowhere 13 = .ok (.iconst 2, 1) := by decide +kernel
theorem d_Fl_findWaysToNowhere_14 : decode b_Fl_findWaysToNowhere 14 = .ok (.if_icmp .ge 40, 3) := by decide +kernel
theorem d_Fl_findWaysToNowhere_17 : decode b_Fl_findWaysToNowhere 17 = .ok (.aload_n 1, 1) := by decide +kernel
theorem d_Fl_findWaysToNowhere_18 : decode b_Fl_findWaysToNowhere 18 = .ok (.iload_n 2, 1) := by decide +kernel
theorem d_Fl_findWaysToNowhere_19 : decode b_Fl_findWaysToNowhere 19 = .ok (.iload_n 3, 1) := by decide +kernel
theorem d_Fl_findWaysToNowhere_20 : decode b_Fl_findWaysToNowhere 20 = .ok (.invokevirtual 39, 3) := by decide +kernel
theorem d_Fl_findWaysToNowhere_23 : decode b_Fl_findWaysToNowhere 23 = .ok (.ifCond .eq 25, 3) := by decide +kernel
theorem d_Fl_findWaysToNowhere_26 : decode b_Fl_findWaysToNowhere 26 = .ok (.aload_n 1, 1) := by decide +kernel
theorem d_Fl_findWaysToNowhere_27 : decode b_Fl_findWaysToNowhere 27 = .ok (.iload_n 2, 1) := by decide +kernel
theorem d_Fl_findWaysToNowhere_28 : decode b_Fl_findWaysToNowhere 28 = .ok (.iload_n 3, 1) := by decide +kernel
theorem d_Fl_findWaysToNowhere_29 : decode b_Fl_findWaysToNowhere 29 = .ok (.invokevirtual 43, 3) := by decide +kernel
theorem d_Fl_findWaysToNowhere_32 : decode b_Fl_findWaysToNowhere 32 = .ok (.iconst (-1), 1) := by decide +kernel
theorem d_Fl_findWaysToNowhere_33 : decode b_Fl_findWaysToNowhere 33 = .ok (.if_icmp .ne 15, 3) := by decide +kernel
theorem d_Fl_findWaysToNowhere_36 : decode b_Fl_findWaysToNowhere 36 = .ok (.aload_n 0, 1) := by decide +kernel
theorem d_Fl_findWaysToNowhere_37 : decode b_Fl_findWaysToNowhere 37 = .ok (.iconst 1, 1) := by decide +kernel
theorem d_Fl_findWaysToNowhere_38 : decode b_Fl_findWaysToNowhere 38 = .ok (.aload_n 1, 1) := by decide +kernel
theorem d_Fl_findWaysToNowhere_39 : decode b_Fl_findWaysToNowhere 39 = .ok (.iload_n 2, 1) := by decide +kernel
theorem d_Fl_findWaysToNowhere_40 : decode b_Fl_findWaysToNowhere 40 = .ok (.iconst 1, 1) := by decide +kernel
theorem d_Fl_findWaysToNowhere_41 : decode b_Fl_findWaysToNowhere 41 = .ok (.invokevirtual 31, 3) := by decide +kernel
theorem d_Fl_findWaysToNowhere_44 : decode b_Fl_findWaysToNowhere 44 = .ok (.iload_n 3, 1) := by decide +kernel
theorem d_Fl_findWaysToNowhere_45 : decode b_Fl_findWaysToNowhere 45 = .ok (.invokevirtual 35, 3) := by decide +kernel
theorem d_Fl_findWaysToNowhere_48 : decode b_Fl_findWaysToNowhere 48 = .ok (.iinc 3 1, 3) := by decide +kernel
theorem d_Fl_findWaysToNowhere_51 : decode b_Fl_findWaysToNowhere 51 = .ok (.goto (-39), 3) := by decide +kernel
theorem d_Fl_findWaysToNowhere_54 : decode b_Fl_findWaysToNowhere 54 = .ok (.iinc 2 1, 3) := by decide +kernel
theorem d_Fl_findWaysToNowhere_57 : decode b_Fl_findWaysToNowhere 57 = .ok (.goto (-55), 3) := by decide +kernel
theorem d_Fl_findWaysToNowhere_60 : decode b_Fl_findWaysToNowhere 60 = .ok (.return_, 1) := by decide +kernel
theorem d_Fl_isFaulty_0 : decode b_Fl_isFaulty 0 = .ok (.aload_n 1, 1) := by decide +kernel
theorem d_Fl_isFaulty_1 : decode b_Fl_isFaulty 1 = .ok (.iload_n 3, 1) := by decide +kernel
theorem d_Fl_isFaulty_2 : decode b_Fl_isFaulty 2 = .ok (.iconst 0, 1) := by decide +kernel
theorem d_Fl_isFaulty_3 : decode b_Fl_isFaulty 3 = .ok (.invokevirtual 31, 3) := by decide +kernel
theorem d_Fl_isFaulty_6 : decode b_Fl_isFaulty 6 = .ok (.istore 4, 2) := by decide +kernel
theorem d_Fl_isFaulty_8 : decode b_Fl_isFaulty 8 = .ok (.iload_n 0, 1) := by decide +kernel
theorem d_Fl_isFaulty_9 : decode b_Fl_isFaulty 9 = .ok (.tableswitch 125 2 6 #[35, 56, 76, 83, 105], 35) := by decide +kernel
theorem d_Fl_isFaulty_44 : decode b_Fl_isFaulty 44 = .ok (.iload 4, 2) := by decide +kernel
theorem d_Fl_isFaulty_46 : decode b_Fl_isFaulty 46 = .ok (.iconst 3, 1) := by decide +kernel
theorem d_Fl_isFaulty_47 : decode b_Fl_isFaulty 47 = .ok (.if_icmp .ne 16, 3) := by decide +kernel
theorem d_Fl_isFaulty_50 : decode b_Fl_isFaulty 50 = .ok (.aload_n 1, 1) := by decide +kernel
theorem d_Fl_isFaulty_51 : decode b_Fl_isFaulty 51 = .ok (.aload_n 2, 1) := by decide +kernel
theorem d_Fl_isFaulty_52 : decode b_Fl_isFaulty 52 = .ok (.iload_n 3, 1) := by decide +kernel
theorem d_Fl_isFaulty_53 : decode b_Fl_isFaulty 53 = .ok (.invokestatic 46, 3) := by decide +kernel
theorem d_Fl_isFaulty_56 : decode b_Fl_isFaulty 56 = .ok (.ifCond .eq 7, 3) := by decide +kernel
theorem d_Fl_isFaulty_59 : decode b_Fl_isFaulty 59 = .ok (.iconst 1, 1) := by decide +kernel
theorem d_Fl_isFaulty_60 : decode b_Fl_isFaulty 60 = .ok (.goto 4, 3) := by decide +kernel
theorem d_Fl_isFaulty_63 : decode b_Fl_isFaulty 63 = .ok (.iconst 0, 1) := by decide +kernel
theorem d_Fl_isFaulty_64 : decode b_Fl_isFaulty 64 = .ok (.ireturn, 1) := by decide +kernel
theorem d_Fl_isFaulty_65 : decode b_Fl_isFaulty 65 = .ok (.iload 4, 2) := by decide +kernel
theorem d_Fl_isFaulty_67 : decode b_Fl_isFaulty 67 = .ok (.iconst 3, 1) := by decide +kernel
theorem d_Fl_isFaulty_68 : decode b_Fl_isFaulty 68 = .ok (.if_icmp .ne 15, 3) := by decide +kernel
theorem d_Fl_isFaulty_71 : decode b_Fl_isFaulty 71 = .ok (.aload_n 1, 1) := by decide +kernel
theorem d_Fl_isFaulty_72 : decode b_Fl_isFaulty 72 = .ok (.iload_n 3, 1) := by decide +kernel
theorem d_Fl_isFaulty_73 : decode b_Fl_isFaulty 73 = .ok (.invokestatic 50, 3) := by decide +kernel
theorem d_Fl_isFaulty_76 : decode b_Fl_isFaulty 76 = .ok (.ifCond .eq 7, 3) := by decide +kernel
theorem d_Fl_isFaulty_79 : decode b_Fl_isFaulty 79 = .ok (.iconst 1, 1) := by decide +kernel
theorem d_Fl_isFaulty_80 : decode b_Fl_isFaulty 80 = .ok (.goto 4, 3) := by decide +kernel
theorem d_Fl_isFaulty_83 : decode b_Fl_isFaulty 83 = .ok (.iconst 0, 1) := by decide +kernel
theorem d_Fl_isFaulty_84 : decode b_Fl_isFaulty 84 = .ok (.ireturn, 1) := by decide +kernel
theorem d_Fl_isFaulty_85 : decode b_Fl_isFaulty 85 = .ok (.aload_n 2, 1) := by decide +kernel
theorem d_Fl_isFaulty_86 : decode b_Fl_isFaulty 86 = .ok (.iload_n 3, 1) := by decide +kernel
theorem d_Fl_isFaulty_87 : decode b_Fl_isFaulty 87 = .ok (.iload_n 3, 1) := by decide +kernel
theorem d_Fl_isFaulty_88 : decode b_Fl_isFaulty 88 = .ok (.invokevirtual 54, 3) := by decide +kernel
theorem d_Fl_isFaulty_91 : decode b_Fl_isFaulty 91 = .ok (.ireturn, 1) := by decide +kernel
theorem d_Fl_isFaulty_92 : decode b_Fl_isFaulty 92 = .ok (.iload 4, 2) := by decide +kernel
theorem d_Fl_isFaulty_94 : decode b_Fl_isFaulty 94 = .ok (.iconst 4, 1) := by decide +kernel
theorem d_Fl_isFaulty_95 : decode b_Fl_isFaulty 95 = .ok (.if_icmp .ne 17, 3) := by decide +kernel
theorem d_Fl_isFaulty_98 : decode b_Fl_isFaulty 98 = .ok (.aload_n 2, 1) := by decide +kernel
theorem d_Fl_isFaulty_99 : decode b_Fl_isFaulty 99 = .ok (.aload_n 1, 1) := by decide +kernel
theorem d_Fl_isFaulty_100 : decode b_Fl_isFaulty 100 = .ok (.iload_n 3, 1) := by decide +kernel
theorem d_Fl_isFaulty_101 : decode b_Fl_isFaulty 101 = .ok (.invokevirtual 59, 3) := by decide +kernel
theorem d_Fl_isFaulty_104 : decode b_Fl_isFaulty 104 = .ok (.iconst (-1), 1) := by decide +kernel
theorem d_Fl_isFaulty_105 : decode b_Fl_isFaulty 105 = .ok (.if_icmp .ne 7, 3) := by decide +kernel
theorem d_Fl_isFaulty_108 : decode b_Fl_isFaulty 108 = .ok (.iconst 1, 1) := by decide +kernel
theorem d_Fl_isFaulty_109 : decode b_Fl_isFaulty 109 = .ok (.goto 4, 3) := by decide +kernel
theorem d_Fl_isFaulty_112 : decode b_Fl_isFaulty 112 = .ok (.iconst 0, 1) := by decide +kernel
theorem d_Fl_isFaulty_113 : decode b_Fl_isFaulty 113 = .ok (.ireturn, 1) := by decide +kernel
theorem d_Fl_isFaulty_114 : decode b_Fl_isFaulty 114 = .ok (.iload 4, 2) := by decide +kernel
theorem d_Fl_isFaulty_116 : decode b_Fl_isFaulty 116 = .ok (.ifCond .ne 16, 3) := by decide +kernel
theorem d_Fl_isFaulty_119 : decode b_Fl_isFaulty 119 = .ok (.aload_n 2, 1) := by decide +kernel
theorem d_Fl_isFaulty_120 : decode b_Fl_isFaulty 120 = .ok (.aload_n 1, 1) := by decide +kernel
theorem d_Fl_isFaulty_121 : decode b_Fl_isFaulty 121 = .ok (.iload_n 3, 1) := by decide +kernel
theorem d_Fl_isFaulty_122 : decode b_Fl_isFaulty 122 = .ok (.invokevirtual 63, 3) := by decide +kernel
theorem d_Fl_isFaulty_125 : decode b_Fl_isFaulty 125 = .ok (.ifCond .eq 7, 3) := by decide +kernel
theorem d_Fl_isFaulty_128 : decode b_Fl_isFaulty 128 = .ok (.iconst 1, 1) := by decide +kernel
theorem d_Fl_isFaulty_129 : decode b_Fl_isFaulty 129 = .ok (.goto 4, 3) := by decide +kernel
theorem d_Fl_isFaulty_132 : decode b_Fl_isFaulty 132 = .ok (.iconst 0, 1) := by decide +kernel
theorem d_Fl_isFaulty_133 : decode b_Fl_isFaulty 133 = .ok (.ireturn, 1) := by decide +kernel
theorem d_Fl_isFaulty_134 : decode b_Fl_isFaulty 134 = .ok (.iconst 0, 1) := by decide +kernel
theorem d_Fl_isFaulty_135 : decode b_Fl_isFaulty 135 = .ok (.ireturn, 1) := by decide +kernel
theorem d_Fl_isTooSlow_0 : decode b_Fl_isTooSlow 0 = .ok (.aload_n 1, 1) := by decide +kernel
theorem d_Fl_isTooSlow_1 : decode b_Fl_isTooSlow 1 = .ok (.aload_n 0, 1) := by decide +kernel
theorem d_Fl_isTooSlow_2 : decode b_Fl_isTooSlow 2 = .ok (.iload_n 2, 1) := by decide +kernel
theorem d_Fl_isTooSlow_3 : decode b_Fl_isTooSlow 3 = .ok (.invokevirtual 59, 3) := by decide +kernel
theorem d_Fl_isTooSlow_6 : decode b_Fl_isTooSlow 6 = .ok (.istore_n 3, 1) := by decide +kernel
theorem d_Fl_isTooSlow_7 : decode b_Fl_isTooSlow 7 = .ok (.iload_n 3, 1) := by decide +kernel
theorem d_Fl_isTooSlow_8 : decode b_Fl_isTooSlow 8 = .ok (.iconst (-1), 1) := by decide +kernel
theorem d_Fl_isTooSlow_9 : decode b_Fl_isTooSlow 9 = .ok (.if_icmp .eq 17, 3) := by decide +kernel
theorem d_Fl_isTooSlow_12 : decode b_Fl_isTooSlow 12 = .ok (.aload_n 0, 1) := by decide +kernel
theorem d_Fl_isTooSlow_13 : decode b_Fl_isTooSlow 13 = .ok (.iload_n 2, 1) := by decide +kernel
theorem d_Fl_isTooSlow_14 : decode b_Fl_isTooSlow 14 = .ok (.iconst 2, 1) := by decide +kernel
theorem d_Fl_isTooSlow_15 : decode b_Fl_isTooSlow 15 = .ok (.invokevirtual 31, 3) := by decide +kernel
theorem d_Fl_isTooSlow_18 : decode b_Fl_isTooSlow 18 = .ok (.iload_n 3, 1) := by decide +kernel
theorem d_Fl_isTooSlow_19 : decode b_Fl_isTooSlow 19 = .ok (.if_icmp .le 7, 3) := by decide +kernel
theorem d_Fl_isTooSlow_22 : decode b_Fl_isTooSlow 22 = .ok (.iconst 1, 1) := by decide +kernel
theorem d_Fl_isTooSlow_23 : decode b_Fl_isTooSlow 23 = .ok (.goto 4, 3) := by decide +kernel
theorem d_Fl_isTooSlow_26 : decode b_Fl_isTooSlow 26 = .ok (.iconst 0, 1) := by decide +kernel
theorem d_Fl_isTooSlow_27 : decode b_Fl_isTooSlow 27 = .ok (.ireturn, 1) := by decide +kernel
theorem d_Fl_goesToGate_0 : decode b_Fl_goesToGate 0 = .ok (.iconst 0, 1) := by decide +kernel
theorem d_Fl_goesToGate_1 : decode b_Fl_goesToGate 1 = .ok (.istore_n 2, 1) := by decide +kernel
theorem d_Fl_goesToGate_2 : decode b_Fl_goesToGate 2 = .ok (.iload_n 2, 1) := by decide +kernel
theorem d_Fl_goesToGate_3 : decode b_Fl_goesToGate 3 = .ok (.iconst 2, 1) := by decide +kernel
theorem d_Fl_goesToGate_4 : decode b_Fl_goesToGate 4 = .ok (.if_icmp .ge 26, 3) := by decide +kernel
theorem d_Fl_goesToGate_7 : decode b_Fl_goesToGate 7 = .ok (.aload_n 0, 1) := by decide +kernel
theorem d_Fl_goesToGate_8 : decode b_Fl_goesToGate 8 = .ok (.aload_n 0, 1) := by decide +kernel
theorem d_Fl_goesToGate_9 : decode b_Fl_goesToGate 9 = .ok (.iload_n 1, 1) := by decide +kernel
theorem d_Fl_goesToGate_10 : decode b_Fl_goesToGate 10 = .ok (.iload_n 2, 1) := by decide +kernel
theorem d_Fl_goesToGate_11 : decode b_Fl_goesToGate 11 = .ok (.invokevirtual 43, 3) := by decide +kernel
theorem d_Fl_goesToGate_14 : decode b_Fl_goesToGate 14 = .ok (.iconst 0, 1) := by decide +kernel
theorem d_Fl_goesToGate_15 : decode b_Fl_goesToGate 15 = .ok (.invokevirtual 31, 3) := by decide +kernel
theorem d_Fl_goesToGate_18 : decode b_Fl_goesToGate 18 = .ok (.iconst 3, 1) := by decide +kernel
theorem d_Fl_goesToGate_19 : decode b_Fl_goesToGate 19 = .ok (.if_icmp .ne 5, 3) := by decide +kernel
theorem d_Fl_goesToGate_22 : decode b_Fl_goesToGate 22 = .ok (.iconst 1, 1) := by decide +kernel
theorem d_Fl_goesToGate_23 : decode b_Fl_goesToGate 23 = .ok (.ireturn, 1) := by decide +kernel
theorem d_Fl_goesToGate_24 : decode b_Fl_goesToGate 24 = .ok (.iinc 2 1, 3) := by decide +kernel
theorem d_Fl_goesToGate_27 : decode b_Fl_goesToGate 27 = .ok (.goto (-25), 3) := by decide +kernel
theorem d_Fl_goesToGate_30 : decode b_Fl_goesToGate 30 = .ok (.iconst 0, 1) := by decide +kernel
theorem d_Fl_goesToGate_31 : decode b_Fl_goesToGate 31 = .ok (.ireturn, 1) := by decide +kernel
theorem d_Fl_add_0 : decode b_Fl_add 0 = .ok (.aload_n 0, 1) := by decide +kernel
theorem d_Fl_add_1 : decode b_Fl_add 1 = .ok (.getfield 16, 3) := by decide +kernel
theorem d_Fl_add_4 : decode b_Fl_add 4 = .ok (.ifCond .lt 13, 3) := by decide +kernel
theorem d_Fl_add_7 : decode b_Fl_add 7 = .ok (.aload_n 0, 1) := by decide +kernel
theorem d_Fl_add_8 : decode b_Fl_add 8 = .ok (.getfield 16, 3) := by decide +kernel
theorem d_Fl_add_11 : decode b_Fl_add 11 = .ok (.sipush 168, 3) := by decide +kernel
theorem d_Fl_add_14 : decode b_Fl_add 14 = .ok (.if_icmp .lt 4, 3) := by decide +kernel
theorem d_Fl_add_17 : decode b_Fl_add 17 = .ok (.return_, 1) := by decide +kernel
theorem d_Fl_add_18 : decode b_Fl_add 18 = .ok (.aload_n 0, 1) := by decide +kernel
theorem d_Fl_add_19 : decode b_Fl_add 19 = .ok (.getfield 11, 3) := by decide +kernel
theorem d_Fl_add_22 : decode b_Fl_add 22 = .ok (.iconst 0, 1) := by decide +kernel
theorem d_Fl_add_23 : decode b_Fl_add 23 = .ok (.aaload, 1) := by decide +kernel
theorem d_Fl_add_24 : decode b_Fl_add 24 = .ok (.aload_n 0, 1) := by decide +kernel
theorem d_Fl_add_25 : decode b_Fl_add 25 = .ok (.getfield 16, 3) := by decide +kernel
theorem d_Fl_add_28 : decode b_Fl_add 28 = .ok (.iload_n 1, 1) := by decide +kernel
theorem d_Fl_add_29 : decode b_Fl_add 29 = .ok (.iastore, 1) := by decide +kernel
theorem d_Fl_add_30 : decode b_Fl_add 30 = .ok (.aload_n 0, 1) := by decide +kernel
theorem d_Fl_add_31 : decode b_Fl_add 31 = .ok (.getfield 11, 3) := by decide +kernel
theorem d_Fl_add_34 : decode b_Fl_add 34 = .ok (.iconst 1, 1) := by decide +kernel
theorem d_Fl_add_35 : decode b_Fl_add 35 = .ok (.aaload, 1) := by decide +kernel
theorem d_Fl_add_36 : decode b_Fl_add 36 = .ok (.aload_n 0, 1) := by decide +kernel
theorem d_Fl_add_37 : decode b_Fl_add 37 = .ok (.getfield 16, 3) := by decide +kernel
theorem d_Fl_add_40 : decode b_Fl_add 40 = .ok (.iload_n 2, 1) := by decide +kernel
theorem d_Fl_add_41 : decode b_Fl_add 41 = .ok (.iastore, 1) := by decide +kernel
theorem d_Fl_add_42 : decode b_Fl_add 42 = .ok (.aload_n 0, 1) := by decide +kernel
theorem d_Fl_add_43 : decode b_Fl_add 43 = .ok (.getfield 11, 3) := by decide +kernel
theorem d_Fl_add_46 : decode b_Fl_add 46 = .ok (.iconst 2, 1) := by decide +kernel
theorem d_Fl_add_47 : decode b_Fl_add 47 = .ok (.aaload, 1) := by decide +kernel
theorem d_Fl_add_48 : decode b_Fl_add 48 = .ok (.aload_n 0, 1) := by decide +kernel
theorem d_Fl_add_49 : decode b_Fl_add 49 = .ok (.getfield 16, 3) := by decide +kernel
theorem d_Fl_add_52 : decode b_Fl_add 52 = .ok (.iload_n 3, 1) := by decide +kernel
theorem d_Fl_add_53 : decode b_Fl_add 53 = .ok (.iastore, 1) := by decide +kernel
theorem d_Fl_add_54 : decode b_Fl_add 54 = .ok (.aload_n 0, 1) := by decide +kernel
theorem d_Fl_add_55 : decode b_Fl_add 55 = .ok (.dup, 1) := by decide +kernel
theorem d_Fl_add_56 : decode b_Fl_add 56 = .ok (.getfield 16, 3) := by decide +kernel
theorem d_Fl_add_59 : decode b_Fl_add 59 = .ok (.iconst 1, 1) := by decide +kernel
theorem d_Fl_add_60 : decode b_Fl_add 60 = .ok (.iadd, 1) := by decide +kernel
theorem d_Fl_add_61 : decode b_Fl_add 61 = .ok (.putfield 16, 3) := by decide +kernel
theorem d_Fl_add_64 : decode b_Fl_add 64 = .ok (.return_, 1) := by decide +kernel
theorem d_Fl_value_0 : decode b_Fl_value 0 = .ok (.iload_n 1, 1) := by decide +kernel
theorem d_Fl_value_1 : decode b_Fl_value 1 = .ok (.ifCond .lt 27, 3) := by decide +kernel
theorem d_Fl_value_4 : decode b_Fl_value 4 = .ok (.iload_n 1, 1) := by decide +kernel
theorem d_Fl_value_5 : decode b_Fl_value 5 = .ok (.aload_n 0, 1) := by decide +kernel
theorem d_Fl_value_6 : decode b_Fl_value 6 = .ok (.getfield 16, 3) := by decide +kernel
theorem d_Fl_value_9 : decode b_Fl_value 9 = .ok (.if_icmp .ge 19, 3) := by decide +kernel
theorem d_Fl_value_12 : decode b_Fl_value 12 = .ok (.iload_n 1, 1) := by decide +kernel
theorem d_Fl_value_13 : decode b_Fl_value 13 = .ok (.sipush 168, 3) := by decide +kernel
theorem d_Fl_value_16 : decode b_Fl_value 16 = .ok (.if_icmp .ge 12, 3) := by decide +kernel
theorem d_Fl_value_19 : decode b_Fl_value 19 = .ok (.iload_n 2, 1) := by decide +kernel
theorem d_Fl_value_20 : decode b_Fl_value 20 = .ok (.ifCond .lt 8, 3) := by decide +kernel
theorem d_Fl_value_23 : decode b_Fl_value 23 = .ok (.iload_n 2, 1) := by decide +kernel
theorem d_Fl_value_24 : decode b_Fl_value 24 = .ok (.iconst 3, 1) := by decide +kernel
theorem d_Fl_value_25 : decode b_Fl_value 25 = .ok (.if_icmp .lt 5, 3) := by decide +kernel
theorem d_Fl_value_28 : decode b_Fl_value 28 = .ok (.iconst (-1), 1) := by decide +kernel
theorem d_Fl_value_29 : decode b_Fl_value 29 = .ok (.ireturn, 1) := by decide +kernel
theorem d_Fl_value_30 : decode b_Fl_value 30 = .ok (.aload_n 0, 1) := by decide +kernel
theorem d_Fl_value_31 : decode b_Fl_value 31 = .ok (.getfield 11, 3) := by decide +kernel
theorem d_Fl_value_34 : decode b_Fl_value 34 = .ok (.iload_n 2, 1) := by decide +kernel
theorem d_Fl_value_35 : decode b_Fl_value 35 = .ok (.aaload, 1) := by decide +kernel
theorem d_Fl_value_36 : decode b_Fl_value 36 = .ok (.iload_n 1, 1) := by decide +kernel
theorem d_Fl_value_37 : decode b_Fl_value 37 = .ok (.iaload, 1) := by decide +kernel
theorem d_Fl_value_38 : decode b_Fl_value 38 = .ok (.ireturn, 1) := by decide +kernel
