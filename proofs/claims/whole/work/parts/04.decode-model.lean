theorem d_Mo_init_0 : decode b_Mo_init 0 = .ok (.aload_n 0, 1) := by decide +kernel
theorem d_Mo_init_1 : decode b_Mo_init 1 = .ok (.invokespecial 1, 3) := by decide +kernel
theorem d_Mo_init_4 : decode b_Mo_init 4 = .ok (.aload_n 0, 1) := by decide +kernel
theorem d_Mo_init_5 : decode b_Mo_init 5 = .ok (.sipush 300, 3) := by decide +kernel
theorem d_Mo_init_8 : decode b_Mo_init 8 = .ok (.newarray .int, 2) := by decide +kernel
theorem d_Mo_init_10 : decode b_Mo_init 10 = .ok (.putfield 7, 3) := by decide +kernel
theorem d_Mo_init_13 : decode b_Mo_init 13 = .ok (.aload_n 0, 1) := by decide +kernel
theorem d_Mo_init_14 : decode b_Mo_init 14 = .ok (.bipush 24, 2) := by decide +kernel
theorem d_Mo_init_16 : decode b_Mo_init 16 = .ok (.newarray .int, 2) := by decide +kernel
theorem d_Mo_init_18 : decode b_Mo_init 18 = .ok (.putfield 13, 3) := by decide +kernel
theorem d_Mo_init_21 : decode b_Mo_init 21 = .ok (.aload_n 0, 1) := by decide +kernel
theorem d_Mo_init_22 : decode b_Mo_init 22 = .ok (.bipush 24, 2) := by decide +kernel
theorem d_Mo_init_24 : decode b_Mo_init 24 = .ok (.newarray .int, 2) := by decide +kernel
theorem d_Mo_init_26 : decode b_Mo_init 26 = .ok (.putfield 16, 3) := by decide +kernel
theorem d_Mo_init_29 : decode b_Mo_init 29 = .ok (.aload_n 0, 1) := by decide +kernel
theorem d_Mo_init_30 : decode b_Mo_init 30 = .ok (.bipush 24, 2) := by decide +kernel
theorem d_Mo_init_32 : decode b_Mo_init 32 = .ok (.newarray .int, 2) := by decide +kernel
theorem d_Mo_init_34 : decode b_Mo_init 34 = .ok (.putfield 19, 3) := by decide +kernel
theorem d_Mo_init_37 : decode b_Mo_init 37 = .ok (.aload_n 0, 1) := by decide +kernel
theorem d_Mo_init_38 : decode b_Mo_init 38 = .ok (.bipush 24, 2) := by decide +kernel
theorem d_Mo_init_40 : decode b_Mo_init 40 = .ok (.newarray .int, 2) := by decide +kernel
theorem d_Mo_init_42 : decode b_Mo_init 42 = .ok (.putfield 22, 3) := by decide +kernel
theorem d_Mo_init_45 : decode b_Mo_init 45 = .ok (.aload_n 0, 1) := by decide +kernel
theorem d_Mo_init_46 : decode b_Mo_init 46 = .ok (.bipush 48, 2) := by decide +kernel
theorem d_Mo_init_48 : decode b_Mo_init 48 = .ok (.newarray .int, 2) := by decide +kernel
theorem d_Mo_init_50 : decode b_Mo_init 50 = .ok (.putfield 25, 3) := by decide +kernel
theorem d_Mo_init_53 : decode b_Mo_init 53 = .ok (.aload_n 0, 1) := by decide +kernel
theorem d_Mo_init_54 : decode b_Mo_init 54 = .ok (.bipush 24, 2) := by decide +kernel
theorem d_Mo_init_56 : decode b_Mo_init 56 = .ok (.newarray .int, 2) := by decide +kernel
theorem d_Mo_init_58 : decode b_Mo_init 58 = .ok (.putfield 28, 3) := by decide +kernel
theorem d_Mo_init_61 : decode b_Mo_init 61 = .ok (.aload_n 0, 1) := by decide +kernel
theorem d_Mo_init_62 : decode b_Mo_init 62 = .ok (.bipush 24, 2) := by decide +kernel
theorem d_Mo_init_64 : decode b_Mo_init 64 = .ok (.newarray .int, 2) := by decide +kernel
theorem d_Mo_init_66 : decode b_Mo_init 66 = .ok (.putfield 31, 3) := by decide +kernel
theorem d_Mo_init_69 : decode b_Mo_init 69 = .ok (.aload_n 0, 1) := by decide +kernel
theorem d_Mo_init_70 : decode b_Mo_init 70 = .ok (.bipush 24, 2) := by decide +kernel
theorem d_Mo_init_72 : decode b_Mo_init 72 = .ok (.newarray .int, 2) := by decide +kernel
theorem d_Mo_init_74 : decode b_Mo_init 74 = .ok (.putfield 34, 3) := by decide +kernel
theorem d_Mo_init_77 : decode b_Mo_init 77 = .ok (.aload_n 0, 1) := by decide +kernel
theorem d_Mo_init_78 : decode b_Mo_init 78 = .ok (.bipush 24, 2) := by decide +kernel
theorem d_Mo_init_80 : decode b_Mo_init 80 = .ok (.newarray .int, 2) := by decide +kernel
theorem d_Mo_init_82 : decode b_Mo_init 82 = .ok (.putfield 37, 3) := by decide +kernel
theorem d_Mo_init_85 : decode b_Mo_init 85 = .ok (.aload_n 0, 1) := by decide +kernel
theorem d_Mo_init_86 : decode b_Mo_init 86 = .ok (.bipush 48, 2) := by decide +kernel
theorem d_Mo_init_88 : decode b_Mo_init 88 = .ok (.newarray .int, 2) := by decide +kernel
theorem d_Mo_init_90 : decode b_Mo_init 90 = .ok (.putfield 40, 3) := by decide +kernel
theorem d_Mo_init_93 : decode b_Mo_init 93 = .ok (.aload_n 0, 1) := by decide +kernel
theorem d_Mo_init_94 : decode b_Mo_init 94 = .ok (.sipush 576, 3) := by decide +kernel
theorem d_Mo_init_97 : decode b_Mo_init 97 = .ok (.newarray .boolean, 2) := by decide +kernel
theorem d_Mo_init_99 : decode b_Mo_init 99 = .ok (.putfield 43, 3) := by decide +kernel
theorem d_Mo_init_102 : decode b_Mo_init 102 = .ok (.aload_n 0, 1) := by decide +kernel
theorem d_Mo_init_103 : decode b_Mo_init 103 = .ok (.sipush 300, 3) := by decide +kernel
theorem d_Mo_init_106 : decode b_Mo_init 106 = .ok (.newarray .int, 2) := by decide +kernel
theorem d_Mo_init_108 : decode b_Mo_init 108 = .ok (.putfield 47, 3) := by decide +kernel
theorem d_Mo_init_111 : decode b_Mo_init 111 = .ok (.aload_n 0, 1) := by decide +kernel
theorem d_Mo_init_112 : decode b_Mo_init 112 = .ok (.sipush 300, 3) := by decide +kernel
theorem d_Mo_init_115 : decode b_Mo_init 115 = .ok (.newarray .int, 2) := by decide +kernel
theorem d_Mo_init_117 : decode b_Mo_init 117 = .ok (.putfield 50, 3) := by decide +kernel
theorem d_Mo_init_120 : decode b_Mo_init 120 = .ok (.aload_n 0, 1) := by decide +kernel
theorem d_Mo_init_121 : decode b_Mo_init 121 = .ok (.sipush 300, 3) := by decide +kernel
theorem d_Mo_init_124 : decode b_Mo_init 124 = .ok (.newarray .int, 2) := by decide +kernel
theorem d_Mo_init_126 : decode b_Mo_init 126 = .ok (.putfield 53, 3) := by decide +kernel
theorem d_Mo_init_129 : decode b_Mo_init 129 = .ok (.aload_n 0, 1) := by decide +kernel
theorem d_Mo_init_130 : decode b_Mo_init 130 = .ok (.bipush 24, 2) := by decide +kernel
theorem d_Mo_init_132 : decode b_Mo_init 132 = .ok (.newarray .long, 2) := by decide +kernel
theorem d_Mo_init_134 : decode b_Mo_init 134 = .ok (.putfield 56, 3) := by decide +kernel
theorem d_Mo_init_137 : decode b_Mo_init 137 = .ok (.aload_n 0, 1) := by decide +kernel
theorem d_Mo_init_138 : decode b_Mo_init 138 = .ok (.sipush 900, 3) := by decide +kernel
theorem d_Mo_init_141 : decode b_Mo_init 141 = .ok (.newarray .int, 2) := by decide +kernel
theorem d_Mo_init_143 : decode b_Mo_init 143 = .ok (.putfield 60, 3) := by decide +kernel
theorem d_Mo_init_146 : decode b_Mo_init 146 = .ok (.return_, 1) := by decide +kernel
theorem d_Mo_sign_0 : decode b_Mo_sign 0 = .ok (.aload_n 0, 1) := by decide +kernel
theorem d_Mo_sign_1 : decode b_Mo_sign 1 = .ok (.getfield 63, 3) := by decide +kernel
theorem d_Mo_sign_4 : decode b_Mo_sign 4 = .ok (.sipush 300, 3) := by decide +kernel
theorem d_Mo_sign_7 : decode b_Mo_sign 7 = .ok (.if_icmp .eq 15, 3) := by decide +kernel
theorem d_Mo_sign_10 : decode b_Mo_sign 10 = .ok (.iload_n 1, 1) := by decide +kernel
theorem d_Mo_sign_11 : decode b_Mo_sign 11 = .ok (.bipush 32, 2) := by decide +kernel
theorem d_Mo_sign_13 : decode b_Mo_sign 13 = .ok (.if_icmp .lt 9, 3) := by decide +kernel
theorem d_Mo_sign_16 : decode b_Mo_sign 16 = .ok (.iload_n 1, 1) := by decide +kernel
theorem d_Mo_sign_17 : decode b_Mo_sign 17 = .ok (.bipush 126, 2) := by decide +kernel
theorem d_Mo_sign_19 : decode b_Mo_sign 19 = .ok (.if_icmp .le 5, 3) := by decide +kernel
theorem d_Mo_sign_22 : decode b_Mo_sign 22 = .ok (.iconst 0, 1) := by decide +kernel
theorem d_Mo_sign_23 : decode b_Mo_sign 23 = .ok (.ireturn, 1) := by decide +kernel
theorem d_Mo_sign_24 : decode b_Mo_sign 24 = .ok (.aload_n 0, 1) := by decide +kernel
theorem d_Mo_sign_25 : decode b_Mo_sign 25 = .ok (.getfield 7, 3) := by decide +kernel
theorem d_Mo_sign_28 : decode b_Mo_sign 28 = .ok (.aload_n 0, 1) := by decide +kernel
theorem d_Mo_sign_29 : decode b_Mo_sign 29 = .ok (.getfield 63, 3) := by decide +kernel
theorem d_Mo_sign_32 : decode b_Mo_sign 32 = .ok (.iload_n 1, 1) := by decide +kernel
theorem d_Mo_sign_33 : decode b_Mo_sign 33 = .ok (.iastore, 1) := by decide +kernel
theorem d_Mo_sign_34 : decode b_Mo_sign 34 = .ok (.aload_n 0, 1) := by decide +kernel
theorem d_Mo_sign_35 : decode b_Mo_sign 35 = .ok (.dup, 1) := by decide +kernel
theorem d_Mo_sign_36 : decode b_Mo_sign 36 = .ok (.getfield 63, 3) := by decide +kernel
theorem d_Mo_sign_39 : decode b_Mo_sign 39 = .ok (.iconst 1, 1) := by decide +kernel
theorem d_Mo_sign_40 : decode b_Mo_sign 40 = .ok (.iadd, 1) := by decide +kernel
theorem d_Mo_sign_41 : decode b_Mo_sign 41 = .ok (.putfield 63, 3) := by decide +kernel
theorem d_Mo_sign_44 : decode b_Mo_sign 44 = .ok (.iconst 1, 1) := by decide +kernel
theorem d_Mo_sign_45 : decode b_Mo_sign 45 = .ok (.ireturn, 1) := by decide +kernel
theorem d_Mo_look_0 : decode b_Mo_look 0 = .ok (.aload_n 0, 1) := by decide +kernel
theorem d_Mo_look_1 : decode b_Mo_look 1 = .ok (.getfield 67, 3) := by decide +kernel
theorem d_Mo_look_4 : decode b_Mo_look 4 = .ok (.aload_n 0, 1) := by decide +kernel
theorem d_Mo_look_5 : decode b_Mo_look 5 = .ok (.getfield 63, 3) := by decide +kernel
theorem d_Mo_look_8 : decode b_Mo_look 8 = .ok (.if_icmp .ge 15, 3) := by decide +kernel
theorem d_Mo_look_11 : decode b_Mo_look 11 = .ok (.aload_n 0, 1) := by decide +kernel
theorem d_Mo_look_12 : decode b_Mo_look 12 = .ok (.getfield 7, 3) := by decide +kernel
theorem d_Mo_look_15 : decode b_Mo_look 15 = .ok (.aload_n 0, 1) := by decide +kernel
theorem d_Mo_look_16 : decode b_Mo_look 16 = .ok (.getfield 67, 3) := by decide +kernel
theorem d_Mo_look_19 : decode b_Mo_look 19 = .ok (.iaload, 1) := by decide +kernel
theorem d_Mo_look_20 : decode b_Mo_look 20 = .ok (.goto 4, 3) := by decide +kernel
theorem d_Mo_look_23 : decode b_Mo_look 23 = .ok (.iconst 0, 1) := by decide +kernel
theorem d_Mo_look_24 : decode b_Mo_look 24 = .ok (.ireturn, 1) := by decide +kernel
theorem d_Mo_mark_0 : decode b_Mo_mark 0 = .ok (.aload_n 0, 1) := by decide +kernel
theorem d_Mo_mark_1 : decode b_Mo_mark 1 = .ok (.aload_n 0, 1) := by decide +kernel
theorem d_Mo_mark_2 : decode b_Mo_mark 2 = .ok (.getfield 70, 3) := by decide +kernel
theorem d_Mo_mark_5 : decode b_Mo_mark 5 = .ok (.iconst (-1), 1) := by decide +kernel
theorem d_Mo_mark_6 : decode b_Mo_mark 6 = .ok (.if_icmp .ne 7, 3) := by decide +kernel
theorem d_Mo_mark_9 : decode b_Mo_mark 9 = .ok (.iload_n 1, 1) := by decide +kernel
theorem d_Mo_mark_10 : decode b_Mo_mark 10 = .ok (.goto 7, 3) := by decide +kernel
theorem d_Mo_mark_13 : decode b_Mo_mark 13 = .ok (.aload_n 0, 1) := by decide +kernel
theorem d_Mo_mark_14 : decode b_Mo_mark 14 = .ok (.getfield 70, 3) := by decide +kernel
theorem d_Mo_mark_17 : decode b_Mo_mark 17 = .ok (.putfield 70, 3) := by decide +kernel
theorem d_Mo_mark_20 : decode b_Mo_mark 20 = .ok (.return_, 1) := by decide +kernel
theorem d_Mo_take_0 : decode b_Mo_take 0 = .ok (.aload_n 0, 1) := by decide +kernel
theorem d_Mo_take_1 : decode b_Mo_take 1 = .ok (.getfield 70, 3) := by decide +kernel
theorem d_Mo_take_4 : decode b_Mo_take 4 = .ok (.iconst (-1), 1) := by decide +kernel
theorem d_Mo_take_5 : decode b_Mo_take 5 = .ok (.if_icmp .ne 24, 3) := by decide +kernel
theorem d_Mo_take_8 : decode b_Mo_take 8 = .ok (.aload_n 0, 1) := by decide +kernel
theorem d_Mo_take_9 : decode b_Mo_take 9 = .ok (.invokevirtual 73, 3) := by decide +kernel
theorem d_Mo_take_12 : decode b_Mo_take 12 = .ok (.iload_n 1, 1) := by decide +kernel
theorem d_Mo_take_13 : decode b_Mo_take 13 = .ok (.if_icmp .ne 16, 3) := by decide +kernel
theorem d_Mo_take_16 : decode b_Mo_take 16 = .ok (.aload_n 0, 1) := by decide +kernel
theorem d_Mo_take_17 : decode b_Mo_take 17 = .ok (.dup, 1) := by decide +kernel
theorem d_Mo_take_18 : decode b_Mo_take 18 = .ok (.getfield 67, 3) := by decide +kernel
theorem d_Mo_take_21 : decode b_Mo_take 21 = .ok (.iconst 1, 1) := by decide +kernel
theorem d_Mo_take_22 : decode b_Mo_take 22 = .ok (.iadd, 1) := by decide +kernel
theorem d_Mo_take_23 : decode b_Mo_take 23 = .ok (.putfield 67, 3) := by decide +kernel
theorem d_Mo_take_26 : decode b_Mo_take 26 = .ok (.goto 11, 3) := by decide +kernel
theorem d_Mo_take_29 : decode b_Mo_take 29 = .ok (.aload_n 0, 1) := by decide +kernel
theorem d_Mo_take_30 : decode b_Mo_take 30 = .ok (.aload_n 0, 1) := by decide +kernel
theorem d_Mo_take_31 : decode b_Mo_take 31 = .ok (.getfield 67, 3) := by decide +kernel
theorem d_Mo_take_34 : decode b_Mo_take 34 = .ok (.invokevirtual 77, 3) := by decide +kernel
theorem d_Mo_take_37 : decode b_Mo_take 37 = .ok (.return_, 1) := by decide +kernel
theorem d_Mo_number_0 : decode b_Mo_number 0 = .ok (.aload_n 0, 1) := by decide +kernel
theorem d_Mo_number_1 : decode b_Mo_number 1 = .ok (.getfield 67, 3) := by decide +kernel
theorem d_Mo_number_4 : decode b_Mo_number 4 = .ok (.istore_n 3, 1) := by decide +kernel
theorem d_Mo_number_5 : decode b_Mo_number 5 = .ok (.iconst 0, 1) := by decide +kernel
theorem d_Mo_number_6 : decode b_Mo_number 6 = .ok (.istore 4, 2) := by decide +kernel
theorem d_Mo_number_8 : decode b_Mo_number 8 = .ok (.aload_n 0, 1) := by decide +kernel
theorem d_Mo_number_9 : decode b_Mo_number 9 = .ok (.getfield 70, 3) := by decide +kernel
theorem d_Mo_number_12 : decode b_Mo_number 12 = .ok (.iconst (-1), 1) := by decide +kernel
theorem d_Mo_number_13 : decode b_Mo_number 13 = .ok (.if_icmp .ne 59, 3) := by decide +kernel
theorem d_Mo_number_16 : decode b_Mo_number 16 = .ok (.aload_n 0, 1) := by decide +kernel
theorem d_Mo_number_17 : decode b_Mo_number 17 = .ok (.getfield 67, 3) := by decide +kernel
theorem d_Mo_number_20 : decode b_Mo_number 20 = .ok (.iload_n 3, 1) := by decide +kernel
theorem d_Mo_number_21 : decode b_Mo_number 21 = .ok (.iconst 4, 1) := by decide +kernel
theorem d_Mo_number_22 : decode b_Mo_number 22 = .ok (.iadd, 1) := by decide +kernel
theorem d_Mo_number_23 : decode b_Mo_number 23 = .ok (.if_icmp .ge 49, 3) := by decide +kernel
theorem d_Mo_number_26 : decode b_Mo_number 26 = .ok (.aload_n 0, 1) := by decide +kernel
theorem d_Mo_number_27 : decode b_Mo_number 27 = .ok (.invokevirtual 73, 3) := by decide +kernel
theorem d_Mo_number_30 : decode b_Mo_number 30 = .ok (.bipush 48, 2) := by decide +kernel
theorem d_Mo_number_32 : decode b_Mo_number 32 = .ok (.if_icmp .lt 40, 3) := by decide +kernel
theorem d_Mo_number_35 : decode b_Mo_number 35 = .ok (.aload_n 0, 1) := by decide +kernel
theorem d_Mo_number_36 : decode b_Mo_number 36 = .ok (.invokevirtual 73, 3) := by decide +kernel
theorem d_Mo_number_39 : decode b_Mo_number 39 = .ok (.bipush 57, 2) := by decide +kernel
theorem d_Mo_number_41 : decode b_Mo_number 41 = .ok (.if_icmp .gt 31, 3) := by decide +kernel
theorem d_Mo_number_44 : decode b_Mo_number 44 = .ok (.bipush 10, 2) := by decide +kernel
theorem d_Mo_number_46 : decode b_Mo_number 46 = .ok (.iload 4, 2) := by decide +kernel
theorem d_Mo_number_48 : decode b_Mo_number 48 = .ok (.imul, 1) := by decide +kernel
theorem d_Mo_number_49 : decode b_Mo_number 49 = .ok (.aload_n 0, 1) := by decide +kernel
theorem d_Mo_number_50 : decode b_Mo_number 50 = .ok (.invokevirtual 73, 3) := by decide +kernel
theorem d_Mo_number_53 : decode b_Mo_number 53 = .ok (.iadd, 1) := by decide +kernel
theorem d_Mo_number_54 : decode b_Mo_number 54 = .ok (.bipush 48, 2) := by decide +kernel
theorem d_Mo_number_56 : decode b_Mo_number 56 = .ok (.isub, 1) := by decide +kernel
theorem d_Mo_number_57 : decode b_Mo_number 57 = .ok (.istore 4, 2) := by decide +kernel
theorem d_Mo_number_59 : decode b_Mo_number 59 = .ok (.aload_n 0, 1) := by decide +kernel
theorem d_Mo_number_60 : decode b_Mo_number 60 = .ok (.dup, 1) := by decide +kernel
theorem d_Mo_number_61 : decode b_Mo_number 61 = .ok (.getfield 67, 3) := by decide +kernel
theorem d_Mo_number_64 : decode b_Mo_number 64 = .ok (.iconst 1, 1) := by decide +kernel
theorem d_Mo_number_65 : decode b_Mo_number 65 = .ok (.iadd, 1) := by decide +kernel
theorem d_Mo_number_66 : decode b_Mo_number 66 = .ok (.putfield 67, 3) := by decide +kernel
theorem d_Mo_number_69 : decode b_Mo_number 69 = .ok (.goto (-61), 3) := by decide +kernel
theorem d_Mo_number_72 : decode b_Mo_number 72 = .ok (.aload_n 0, 1) := by decide +kernel
theorem d_Mo_number_73 : decode b_Mo_number 73 = .ok (.getfield 70, 3) := by decide +kernel
theorem d_Mo_number_76 : decode b_Mo_number 76 = .ok (.iconst (-1), 1) := by decide +kernel
theorem d_Mo_number_77 : decode b_Mo_number 77 = .ok (.if_icmp .ne 28, 3) := by decide +kernel
theorem d_Mo_number_80 : decode b_Mo_number 80 = .ok (.aload_n 0, 1) := by decide +kernel
theorem d_Mo_number_81 : decode b_Mo_number 81 = .ok (.getfield 67, 3) := by decide +kernel
theorem d_Mo_number_84 : decode b_Mo_number 84 = .ok (.iload_n 3, 1) := by decide +kernel
theorem d_Mo_number_85 : decode b_Mo_number 85 = .ok (.if_icmp .eq 15, 3) := by decide +kernel
theorem d_Mo_number_88 : decode b_Mo_number 88 = .ok (.iload 4, 2) := by decide +kernel
theorem d_Mo_number_90 : decode b_Mo_number 90 = .ok (.iload_n 1, 1) := by decide +kernel
theorem d_Mo_number_91 : decode b_Mo_number 91 = .ok (.if_icmp .lt 9, 3) := by decide +kernel
theorem d_Mo_number_94 : decode b_Mo_number 94 = .ok (.iload 4, 2) := by decide +kernel
theorem d_Mo_number_96 : decode b_Mo_number 96 = .ok (.iload_n 2, 1) := by decide +kernel
theorem d_Mo_number_97 : decode b_Mo_number 97 = .ok (.if_icmp .le 8, 3) := by decide +kernel
theorem d_Mo_number_100 : decode b_Mo_number 100 = .ok (.aload_n 0, 1) := by decide +kernel
theorem d_Mo_number_101 : decode b_Mo_number 101 = .ok (.iload_n 3, 1) := by decide +kernel
theorem d_Mo_number_102 : decode b_Mo_number 102 = .ok (.invokevirtual 77, 3) := by decide +kernel
theorem d_Mo_number_105 : decode b_Mo_number 105 = .ok (.iload 4, 2) := by decide +kernel
theorem d_Mo_number_107 : decode b_Mo_number 107 = .ok (.ireturn, 1) := by decide +kernel
theorem d_Mo_way_0 : decode b_Mo_way 0 = .ok (.aload_n 0, 1) := by decide +kernel
theorem d_Mo_way_1 : decode b_Mo_way 1 = .ok (.getfield 25, 3) := by decide +kernel
theorem d_Mo_way_4 : decode b_Mo_way 4 = .ok (.iconst 2, 1) := by decide +kernel
theorem d_Mo_way_5 : decode b_Mo_way 5 = .ok (.aload_n 0, 1) := by decide +kernel
theorem d_Mo_way_6 : decode b_Mo_way 6 = .ok (.getfield 81, 3) := by decide +kernel
theorem d_Mo_way_9 : decode b_Mo_way 9 = .ok (.imul, 1) := by decide +kernel
theorem d_Mo_way_10 : decode b_Mo_way 10 = .ok (.iload_n 1, 1) := by decide +kernel
theorem d_Mo_way_11 : decode b_Mo_way 11 = .ok (.iadd, 1) := by decide +kernel
theorem d_Mo_way_12 : decode b_Mo_way 12 = .ok (.aload_n 0, 1) := by decide +kernel
theorem d_Mo_way_13 : decode b_Mo_way 13 = .ok (.iconst 0, 1) := by decide +kernel
theorem d_Mo_way_14 : decode b_Mo_way 14 = .ok (.bipush 29, 2) := by decide +kernel
theorem d_Mo_way_16 : decode b_Mo_way 16 = .ok (.invokevirtual 84, 3) := by decide +kernel
theorem d_Mo_way_19 : decode b_Mo_way 19 = .ok (.iastore, 1) := by decide +kernel
theorem d_Mo_way_20 : decode b_Mo_way 20 = .ok (.return_, 1) := by decide +kernel
theorem d_Mo_kindOf_0 : decode b_Mo_kindOf 0 = .ok (.iload_n 0, 1) := by decide +kernel
theorem d_Mo_kindOf_1 : decode b_Mo_kindOf 1 = .ok (.bipush 70, 2) := by decide +kernel
theorem d_Mo_kindOf_3 : decode b_Mo_kindOf 3 = .ok (.if_icmp .ne 7, 3) := by decide +kernel
theorem d_Mo_kindOf_6 : decode b_Mo_kindOf 6 = .ok (.iconst 0, 1) := by decide +kernel
theorem d_Mo_kindOf_7 : decode b_Mo_kindOf 7 = .ok (.goto 44, 3) := by decide +kernel
theorem d_Mo_kindOf_10 : decode b_Mo_kindOf 10 = .ok (.iload_n 0, 1) := by decide +kernel
theorem d_Mo_kindOf_11 : decode b_Mo_kindOf 11 = .ok (.bipush 66, 2) := by decide +kernel
theorem d_Mo_kindOf_13 : decode b_Mo_kindOf 13 = .ok (.if_icmp .ne 7, 3) := by decide +kernel
theorem d_Mo_kindOf_16 : decode b_Mo_kindOf 16 = .ok (.iconst 1, 1) := by decide +kernel
theorem d_Mo_kindOf_17 : decode b_Mo_kindOf 17 = .ok (.goto 34, 3) := by decide +kernel
theorem d_Mo_kindOf_20 : decode b_Mo_kindOf 20 = .ok (.iload_n 0, 1) := by decide +kernel
theorem d_Mo_kindOf_21 : decode b_Mo_kindOf 21 = .ok (.bipush 82, 2) := by decide +kernel
theorem d_Mo_kindOf_23 : decode b_Mo_kindOf 23 = .ok (.if_icmp .ne 7, 3) := by decide +kernel
theorem d_Mo_kindOf_26 : decode b_Mo_kindOf 26 = .ok (.iconst 2, 1) := by decide +kernel
theorem d_Mo_kindOf_27 : decode b_Mo_kindOf 27 = .ok (.goto 24, 3) := by decide +kernel
theorem d_Mo_kindOf_30 : decode b_Mo_kindOf 30 = .ok (.iload_n 0, 1) := by decide +kernel
theorem d_Mo_kindOf_31 : decode b_Mo_kindOf 31 = .ok (.bipush 71, 2) := by decide +kernel
theorem d_Mo_kindOf_33 : decode b_Mo_kindOf 33 = .ok (.if_icmp .ne 7, 3) := by decide +kernel
theorem d_Mo_kindOf_36 : decode b_Mo_kindOf 36 = .ok (.iconst 3, 1) := by decide +kernel
theorem d_Mo_kindOf_37 : decode b_Mo_kindOf 37 = .ok (.goto 14, 3) := by decide +kernel
theorem d_Mo_kindOf_40 : decode b_Mo_kindOf 40 = .ok (.iload_n 0, 1) := by decide +kernel
theorem d_Mo_kindOf_41 : decode b_Mo_kindOf 41 = .ok (.bipush 83, 2) := by decide +kernel
theorem d_Mo_kindOf_43 : decode b_Mo_kindOf 43 = .ok (.if_icmp .ne 7, 3) := by decide +kernel
theorem d_Mo_kindOf_46 : decode b_Mo_kindOf 46 = .ok (.iconst 4, 1) := by decide +kernel
theorem d_Mo_kindOf_47 : decode b_Mo_kindOf 47 = .ok (.goto 4, 3) := by decide +kernel
theorem d_Mo_kindOf_50 : decode b_Mo_kindOf 50 = .ok (.iconst (-1), 1) := by decide +kernel
theorem d_Mo_kindOf_51 : decode b_Mo_kindOf 51 = .ok (.ireturn, 1) := by decide +kernel
theorem d_Mo_readPart_0 : decode b_Mo_readPart 0 = .ok (.aload_n 0, 1) := by decide +kernel
theorem d_Mo_readPart_1 : decode b_Mo_readPart 1 = .ok (.invokevirtual 73, 3) := by decide +kernel
theorem d_Mo_readPart_4 : decode b_Mo_readPart 4 = .ok (.invokestatic 88, 3) := by decide +kernel
theorem d_Mo_readPart_7 : decode b_Mo_readPart 7 = .ok (.istore_n 1, 1) := by decide +kernel
theorem d_Mo_readPart_8 : decode b_Mo_readPart 8 = .ok (.aload_n 0, 1) := by decide +kernel
theorem d_Mo_readPart_9 : decode b_Mo_readPart 9 = .ok (.getfield 81, 3) := by decide +kernel
theorem d_Mo_readPart_12 : decode b_Mo_readPart 12 = .ok (.bipush 24, 2) := by decide +kernel
theorem d_Mo_readPart_14 : decode b_Mo_readPart 14 = .ok (.if_icmp .eq 8, 3) := by decide +kernel
theorem d_Mo_readPart_17 : decode b_Mo_readPart 17 = .ok (.iload_n 1, 1) := by decide +kernel
theorem d_Mo_readPart_18 : decode b_Mo_readPart 18 = .ok (.iconst (-1), 1) := by decide +kernel
theorem d_Mo_readPart_19 : decode b_Mo_readPart 19 = .ok (.if_icmp .ne 12, 3) := by decide +kernel
theorem d_Mo_readPart_22 : decode b_Mo_readPart 22 = .ok (.aload_n 0, 1) := by decide +kernel
theorem d_Mo_readPart_23 : decode b_Mo_readPart 23 = .ok (.aload_n 0, 1) := by decide +kernel
theorem d_Mo_readPart_24 : decode b_Mo_readPart 24 = .ok (.getfield 67, 3) := by decide +kernel
theorem d_Mo_readPart_27 : decode b_Mo_readPart 27 = .ok (.invokevirtual 77, 3) := by decide +kernel
theorem d_Mo_readPart_30 : decode b_Mo_readPart 30 = .ok (.return_, 1) := by decide +kernel
theorem d_Mo_readPart_31 : decode b_Mo_readPart 31 = .ok (.aload_n 0, 1) := by decide +kernel
theorem d_Mo_readPart_32 : decode b_Mo_readPart 32 = .ok (.dup, 1) := by decide +kernel
theorem d_Mo_readPart_33 : decode b_Mo_readPart 33 = .ok (.getfield 67, 3) := by decide +kernel
theorem d_Mo_readPart_36 : decode b_Mo_readPart 36 = .ok (.iconst 1, 1) := by decide +kernel
theorem d_Mo_readPart_37 : decode b_Mo_readPart 37 = .ok (.iadd, 1) := by decide +kernel
theorem d_Mo_readPart_38 : decode b_Mo_readPart 38 = .ok (.putfield 67, 3) := by decide +kernel
theorem d_Mo_readPart_41 : decode b_Mo_readPart 41 = .ok (.aload_n 0, 1) := by decide +kernel
theorem d_Mo_readPart_42 : decode b_Mo_readPart 42 = .ok (.getfield 67, 3) := by decide +kernel
theorem d_Mo_readPart_45 : decode b_Mo_readPart 45 = .ok (.istore_n 2, 1) := by decide +kernel
theorem d_Mo_readPart_46 : decode b_Mo_readPart 46 = .ok (.aload_n 0, 1) := by decide +kernel
theorem d_Mo_readPart_47 : decode b_Mo_readPart 47 = .ok (.iconst 0, 1) := by decide +kernel
theorem d_Mo_readPart_48 : decode b_Mo_readPart 48 = .ok (.bipush 29, 2) := by decide +kernel
theorem d_Mo_readPart_50 : decode b_Mo_readPart 50 = .ok (.invokevirtual 84, 3) := by decide +kernel
theorem d_Mo_readPart_53 : decode b_Mo_readPart 53 = .ok (.istore_n 3, 1) := by decide +kernel
theorem d_Mo_readPart_54 : decode b_Mo_readPart 54 = .ok (.iconst 0, 1) := by decide +kernel
theorem d_Mo_readPart_55 : decode b_Mo_readPart 55 = .ok (.istore 4, 2) := by decide +kernel
theorem d_Mo_readPart_57 : decode b_Mo_readPart 57 = .ok (.iload 4, 2) := by decide +kernel
theorem d_Mo_readPart_59 : decode b_Mo_readPart 59 = .ok (.aload_n 0, 1) := by decide +kernel
theorem d_Mo_readPart_60 : decode b_Mo_readPart 60 = .ok (.getfield 81, 3) := by decide +kernel
theorem d_Mo_readPart_63 : decode b_Mo_readPart 63 = .ok (.if_icmp .ge 33, 3) := by decide +kernel
theorem d_Mo_readPart_66 : decode b_Mo_readPart 66 = .ok (.aload_n 0, 1) := by decide +kernel
theorem d_Mo_readPart_67 : decode b_Mo_readPart 67 = .ok (.getfield 70, 3) := by decide +kernel
theorem d_Mo_readPart_70 : decode b_Mo_readPart 70 = .ok (.iconst (-1), 1) := by decide +kernel
theorem d_Mo_readPart_71 : decode b_Mo_readPart 71 = .ok (.if_icmp .ne 19, 3) := by decide +kernel
theorem d_Mo_readPart_74 : decode b_Mo_readPart 74 = .ok (.aload_n 0, 1) := by decide +kernel
theorem d_Mo_readPart_75 : decode b_Mo_readPart 75 = .ok (.getfield 16, 3) := by decide +kernel
theorem d_Mo_readPart_78 : decode b_Mo_readPart 78 = .ok (.iload 4, 2) := by decide +kernel
theorem d_Mo_readPart_80 : decode b_Mo_readPart 80 = .ok (.iaload, 1) := by decide +kernel
theorem d_Mo_readPart_81 : decode b_Mo_readPart 81 = .ok (.iload_n 3, 1) := by decide +kernel
theorem d_Mo_readPart_82 : decode b_Mo_readPart 82 = .ok (.if_icmp .ne 8, 3) := by decide +kernel
theorem d_Mo_readPart_85 : decode b_Mo_readPart 85 = .ok (.aload_n 0, 1) := by decide +kernel
theorem d_Mo_readPart_86 : decode b_Mo_readPart 86 = .ok (.iload_n 2, 1) := by decide +kernel
theorem d_Mo_readPart_87 : decode b_Mo_readPart 87 = .ok (.invokevirtual 77, 3) := by decide +kernel
theorem d_Mo_readPart_90 : decode b_Mo_readPart 90 = .ok (.iinc 4 1, 3) := by decide +kernel
theorem d_Mo_readPart_93 : decode b_Mo_readPart 93 = .ok (.goto (-36), 3) := by decide +kernel
theorem d_Mo_readPart_96 : decode b_Mo_readPart 96 = .ok (.aload_n 0, 1) := by decide +kernel
theorem d_Mo_readPart_97 : decode b_Mo_readPart 97 = .ok (.bipush 61, 2) := by decide +kernel
theorem d_Mo_readPart_99 : decode b_Mo_readPart 99 = .ok (.invokevirtual 92, 3) := by decide +kernel
theorem d_Mo_readPart_102 : decode b_Mo_readPart 102 = .ok (.aload_n 0, 1) := by decide +kernel
theorem d_Mo_readPart_103 : decode b_Mo_readPart 103 = .ok (.getfield 13, 3) := by decide +kernel
theorem d_Mo_readPart_106 : decode b_Mo_readPart 106 = .ok (.aload_n 0, 1) := by decide +kernel
theorem d_Mo_readPart_107 : decode b_Mo_readPart 107 = .ok (.getfield 81, 3) := by decide +kernel
theorem d_Mo_readPart_110 : decode b_Mo_readPart 110 = .ok (.iload_n 1, 1) := by decide +kernel
theorem d_Mo_readPart_111 : decode b_Mo_readPart 111 = .ok (.iastore, 1) := by decide +kernel
theorem d_Mo_readPart_112 : decode b_Mo_readPart 112 = .ok (.aload_n 0, 1) := by decide +kernel
theorem d_Mo_readPart_113 : decode b_Mo_readPart 113 = .ok (.getfield 16, 3) := by decide +kernel
theorem d_Mo_readPart_116 : decode b_Mo_readPart 116 = .ok (.aload_n 0, 1) := by decide +kernel
theorem d_Mo_readPart_117 : decode b_Mo_readPart 117 = .ok (.getfield 81, 3) := by decide +kernel
theorem d_Mo_readPart_120 : decode b_Mo_readPart 120 = .ok (.iload_n 3, 1) := by decide +kernel
theorem d_Mo_readPart_121 : decode b_Mo_readPart 121 = .ok (.iastore, 1) := by decide +kernel
theorem d_Mo_readPart_122 : decode b_Mo_readPart 122 = .ok (.aload_n 0, 1) := by decide +kernel
theorem d_Mo_readPart_123 : decode b_Mo_readPart 123 = .ok (.getfield 19, 3) := by decide +kernel
theorem d_Mo_readPart_126 : decode b_Mo_readPart 126 = .ok (.aload_n 0, 1) := by decide +kernel
theorem d_Mo_readPart_127 : decode b_Mo_readPart 127 = .ok (.getfield 81, 3) := by decide +kernel
theorem d_Mo_readPart_130 : decode b_Mo_readPart 130 = .ok (.aload_n 0, 1) := by decide +kernel
theorem d_Mo_readPart_131 : decode b_Mo_readPart 131 = .ok (.iload_n 1, 1) := by decide +kernel
theorem d_Mo_readPart_132 : decode b_Mo_readPart 132 = .ok (.iconst 2, 1) := by decide +kernel
theorem d_Mo_readPart_133 : decode b_Mo_readPart 133 = .ok (.if_icmp .eq 8, 3) := by decide +kernel
theorem d_Mo_readPart_136 : decode b_Mo_readPart 136 = .ok (.iload_n 1, 1) := by decide +kernel
theorem d_Mo_readPart_137 : decode b_Mo_readPart 137 = .ok (.iconst 3, 1) := by decide +kernel
theorem d_Mo_readPart_138 : decode b_Mo_readPart 138 = .ok (.if_icmp .ne 7, 3) := by decide +kernel
theorem d_Mo_readPart_141 : decode b_Mo_readPart 141 = .ok (.iconst 0, 1) := by decide +kernel
theorem d_Mo_readPart_142 : decode b_Mo_readPart 142 = .ok (.goto 4, 3) := by decide +kernel
theorem d_Mo_readPart_145 : decode b_Mo_readPart 145 = .ok (.iconst 1, 1) := by decide +kernel
theorem d_Mo_readPart_146 : decode b_Mo_readPart 146 = .ok (.iload_n 1, 1) := by decide +kernel
theorem d_Mo_readPart_147 : decode b_Mo_readPart 147 = .ok (.iconst 4, 1) := by decide +kernel
theorem d_Mo_readPart_148 : decode b_Mo_readPart 148 = .ok (.if_icmp .ne 9, 3) := by decide +kernel
theorem d_Mo_readPart_151 : decode b_Mo_readPart 151 = .ok (.sipush 999, 3) := by decide +kernel
theorem d_Mo_readPart_154 : decode b_Mo_readPart 154 = .ok (.goto 6, 3) := by decide +kernel
theorem d_Mo_readPart_157 : decode b_Mo_readPart 157 = .ok (.sipush 9999, 3) := by decide +kernel
theorem d_Mo_readPart_160 : decode b_Mo_readPart 160 = .ok (.invokevirtual 84, 3) := by decide +kernel
theorem d_Mo_readPart_163 : decode b_Mo_readPart 163 = .ok (.iastore, 1) := by decide +kernel
theorem d_Mo_readPart_164 : decode b_Mo_readPart 164 = .ok (.aload_n 0, 1) := by decide +kernel
theorem d_Mo_readPart_165 : decode b_Mo_readPart 165 = .ok (.getfield 22, 3) := by decide +kernel
theorem d_Mo_readPart_168 : decode b_Mo_readPart 168 = .ok (.aload_n 0, 1) := by decide +kernel
theorem d_Mo_readPart_169 : decode b_Mo_readPart 169 = .ok (.getfield 81, 3) := by decide +kernel
theorem d_Mo_readPart_172 : decode b_Mo_readPart 172 = .ok (.iconst (-1), 1) := by decide +kernel
theorem d_Mo_readPart_173 : decode b_Mo_readPart 173 = .ok (.iastore, 1) := by decide +kernel
theorem d_Mo_readPart_174 : decode b_Mo_readPart 174 = .ok (.aload_n 0, 1) := by decide +kernel
theorem d_Mo_readPart_175 : decode b_Mo_readPart 175 = .ok (.getfield 25, 3) := by decide +kernel
theorem d_Mo_readPart_178 : decode b_Mo_readPart 178 = .ok (.iconst 2, 1) := by decide +kernel
theorem d_Mo_readPart_179 : decode b_Mo_readPart 179 = .ok (.aload_n 0, 1) := by decide +kernel
theorem d_Mo_readPart_180 : decode b_Mo_readPart 180 = .ok (.getfield 81, 3) := by decide +kernel
theorem d_Mo_readPart_183 : decode b_Mo_readPart 183 = .ok (.imul, 1) := by decide +kernel
theorem d_Mo_readPart_184 : decode b_Mo_readPart 184 = .ok (.iconst (-1), 1) := by decide +kernel
theorem d_Mo_readPart_185 : decode b_Mo_readPart 185 = .ok (.iastore, 1) := by decide +kernel
theorem d_Mo_readPart_186 : decode b_Mo_readPart 186 = .ok (.aload_n 0, 1) := by decide +kernel
theorem d_Mo_readPart_187 : decode b_Mo_readPart 187 = .ok (.getfield 25, 3) := by decide +kernel
theorem d_Mo_readPart_190 : decode b_Mo_readPart 190 = .ok (.iconst 2, 1) := by decide +kernel
theorem d_Mo_readPart_191 : decode b_Mo_readPart 191 = .ok (.aload_n 0, 1) := by decide +kernel
theorem d_Mo_readPart_192 : decode b_Mo_readPart 192 = .ok (.getfield 81, 3) := by decide +kernel
theorem d_Mo_readPart_195 : decode b_Mo_readPart 195 = .ok (.imul, 1) := by decide +kernel
theorem d_Mo_readPart_196 : decode b_Mo_readPart 196 = .ok (.iconst 1, 1) := by decide +kernel
theorem d_Mo_readPart_197 : decode b_Mo_readPart 197 = .ok (.iadd, 1) := by decide +kernel
theorem d_Mo_readPart_198 : decode b_Mo_readPart 198 = .ok (.iconst (-1), 1) := by decide +kernel
theorem d_Mo_readPart_199 : decode b_Mo_readPart 199 = .ok (.iastore, 1) := by decide +kernel
theorem d_Mo_readPart_200 : decode b_Mo_readPart 200 = .ok (.iload_n 1, 1) := by decide +kernel
theorem d_Mo_readPart_201 : decode b_Mo_readPart 201 = .ok (.iconst 1, 1) := by decide +kernel
theorem d_Mo_readPart_202 : decode b_Mo_readPart 202 = .ok (.if_icmp .ne 26, 3) := by decide +kernel
theorem d_Mo_readPart_205 : decode b_Mo_readPart 205 = .ok (.aload_n 0, 1) := by decide +kernel
theorem d_Mo_readPart_206 : decode b_Mo_readPart 206 = .ok (.bipush 44, 2) := by decide +kernel
theorem d_Mo_readPart_208 : decode b_Mo_readPart 208 = .ok (.invokevirtual 92, 3) := by decide +kernel
theorem d_Mo_readPart_211 : decode b_Mo_readPart 211 = .ok (.aload_n 0, 1) := by decide +kernel
theorem d_Mo_readPart_212 : decode b_Mo_readPart 212 = .ok (.getfield 22, 3) := by decide +kernel
theorem d_Mo_readPart_215 : decode b_Mo_readPart 215 = .ok (.aload_n 0, 1) := by decide +kernel
theorem d_Mo_readPart_216 : decode b_Mo_readPart 216 = .ok (.getfield 81, 3) := by decide +kernel
theorem d_Mo_readPart_219 : decode b_Mo_readPart 219 = .ok (.aload_n 0, 1) := by decide +kernel
theorem d_Mo_readPart_220 : decode b_Mo_readPart 220 = .ok (.iconst 1, 1) := by decide +kernel
theorem d_Mo_readPart_221 : decode b_Mo_readPart 221 = .ok (.sipush 9999, 3) := by decide +kernel
theorem d_Mo_readPart_224 : decode b_Mo_readPart 224 = .ok (.invokevirtual 84, 3) := by decide +kernel
theorem d_Mo_readPart_227 : decode b_Mo_readPart 227 = .ok (.iastore, 1) := by decide +kernel
theorem d_Mo_readPart_228 : decode b_Mo_readPart 228 = .ok (.iload_n 1, 1) := by decide +kernel
theorem d_Mo_readPart_229 : decode b_Mo_readPart 229 = .ok (.iconst 4, 1) := by decide +kernel
theorem d_Mo_readPart_230 : decode b_Mo_readPart 230 = .ok (.if_icmp .ge 14, 3) := by decide +kernel
theorem d_Mo_readPart_233 : decode b_Mo_readPart 233 = .ok (.aload_n 0, 1) := by decide +kernel
theorem d_Mo_readPart_234 : decode b_Mo_readPart 234 = .ok (.bipush 62, 2) := by decide +kernel
theorem d_Mo_readPart_236 : decode b_Mo_readPart 236 = .ok (.invokevirtual 92, 3) := by decide +kernel
theorem d_Mo_readPart_239 : decode b_Mo_readPart 239 = .ok (.aload_n 0, 1) := by decide +kernel
theorem d_Mo_readPart_240 : decode b_Mo_readPart 240 = .ok (.iconst 0, 1) := by decide +kernel
theorem d_Mo_readPart_241 : decode b_Mo_readPart 241 = .ok (.invokevirtual 95, 3) := by decide +kernel
theorem d_Mo_readPart_244 : decode b_Mo_readPart 244 = .ok (.iload_n 1, 1) := by decide +kernel
theorem d_Mo_readPart_245 : decode b_Mo_readPart 245 = .ok (.iconst 3, 1) := by decide +kernel
theorem d_Mo_readPart_246 : decode b_Mo_readPart 246 = .ok (.if_icmp .ne 14, 3) := by decide +kernel
theorem d_Mo_readPart_249 : decode b_Mo_readPart 249 = .ok (.aload_n 0, 1) := by decide +kernel
theorem d_Mo_readPart_250 : decode b_Mo_readPart 250 = .ok (.bipush 44, 2) := by decide +kernel
theorem d_Mo_readPart_252 : decode b_Mo_readPart 252 = .ok (.invokevirtual 92, 3) := by decide +kernel
theorem d_Mo_readPart_255 : decode b_Mo_readPart 255 = .ok (.aload_n 0, 1) := by decide +kernel
theorem d_Mo_readPart_256 : decode b_Mo_readPart 256 = .ok (.iconst 1, 1) := by decide +kernel
theorem d_Mo_readPart_257 : decode b_Mo_readPart 257 = .ok (.invokevirtual 95, 3) := by decide +kernel
theorem d_Mo_readPart_260 : decode b_Mo_readPart 260 = .ok (.aload_n 0, 1) := by decide +kernel
theorem d_Mo_readPart_261 : decode b_Mo_readPart 261 = .ok (.bipush 59, 2) := by decide +kernel
theorem d_Mo_readPart_263 : decode b_Mo_readPart 263 = .ok (.invokevirtual 92, 3) := by decide +kernel
theorem d_Mo_readPart_266 : decode b_Mo_readPart 266 = .ok (.aload_n 0, 1) := by decide +kernel
theorem d_Mo_readPart_267 : decode b_Mo_readPart 267 = .ok (.dup, 1) := by decide +kernel
theorem d_Mo_readPart_268 : decode b_Mo_readPart 268 = .ok (.getfield 81, 3) := by decide +kernel
theorem d_Mo_readPart_271 : decode b_Mo_readPart 271 = .ok (.iconst 1, 1) := by decide +kernel
theorem d_Mo_readPart_272 : decode b_Mo_readPart 272 = .ok (.iadd, 1) := by decide +kernel
theorem d_Mo_readPart_273 : decode b_Mo_readPart 273 = .ok (.putfield 81, 3) := by decide +kernel
theorem d_Mo_readPart_276 : decode b_Mo_readPart 276 = .ok (.return_, 1) := by decide +kernel
theorem d_Mo_read_0 : decode b_Mo_read 0 = .ok (.aload_n 0, 1) := by decide +kernel
theorem d_Mo_read_1 : decode b_Mo_read 1 = .ok (.iconst 0, 1) := by decide +kernel
theorem d_Mo_read_2 : decode b_Mo_read 2 = .ok (.putfield 67, 3) := by decide +kernel
theorem d_Mo_read_5 : decode b_Mo_read 5 = .ok (.aload_n 0, 1) := by decide +kernel
theorem d_Mo_read_6 : decode b_Mo_read 6 = .ok (.iconst (-1), 1) := by decide +kernel
theorem d_Mo_read_7 : decode b_Mo_read 7 = .ok (.putfield 70, 3) := by decide +kernel
theorem d_Mo_read_10 : decode b_Mo_read 10 = .ok (.aload_n 0, 1) := by decide +kernel
theorem d_Mo_read_11 : decode b_Mo_read 11 = .ok (.iconst 0, 1) := by decide +kernel
theorem d_Mo_read_12 : decode b_Mo_read 12 = .ok (.putfield 81, 3) := by decide +kernel
theorem d_Mo_read_15 : decode b_Mo_read 15 = .ok (.iconst 1, 1) := by decide +kernel
theorem d_Mo_read_16 : decode b_Mo_read 16 = .ok (.istore_n 1, 1) := by decide +kernel
theorem d_Mo_read_17 : decode b_Mo_read 17 = .ok (.iload_n 1, 1) := by decide +kernel
theorem d_Mo_read_18 : decode b_Mo_read 18 = .ok (.ifCond .eq 35, 3) := by decide +kernel
theorem d_Mo_read_21 : decode b_Mo_read 21 = .ok (.aload_n 0, 1) := by decide +kernel
theorem d_Mo_read_22 : decode b_Mo_read 22 = .ok (.invokevirtual 98, 3) := by decide +kernel
theorem d_Mo_read_25 : decode b_Mo_read 25 = .ok (.aload_n 0, 1) := by decide +kernel
theorem d_Mo_read_26 : decode b_Mo_read 26 = .ok (.getfield 70, 3) := by decide +kernel
theorem d_Mo_read_29 : decode b_Mo_read 29 = .ok (.iconst (-1), 1) := by decide +kernel
theorem d_Mo_read_30 : decode b_Mo_read 30 = .ok (.if_icmp .ne 18, 3) := by decide +kernel
theorem d_Mo_read_33 : decode b_Mo_read 33 = .ok (.aload_n 0, 1) := by decide +kernel
theorem d_Mo_read_34 : decode b_Mo_read 34 = .ok (.getfield 67, 3) := by decide +kernel
theorem d_Mo_read_37 : decode b_Mo_read 37 = .ok (.aload_n 0, 1) := by decide +kernel
theorem d_Mo_read_38 : decode b_Mo_read 38 = .ok (.getfield 63, 3) := by decide +kernel
theorem d_Mo_read_41 : decode b_Mo_read 41 = .ok (.if_icmp .ge 7, 3) := by decide +kernel
theorem d_Mo_read_44 : decode b_Mo_read 44 = .ok (.iconst 1, 1) := by decide +kernel
theorem d_Mo_read_45 : decode b_Mo_read 45 = .ok (.goto 4, 3) := by decide +kernel
theorem d_Mo_read_48 : decode b_Mo_read 48 = .ok (.iconst 0, 1) := by decide +kernel
theorem d_Mo_read_49 : decode b_Mo_read 49 = .ok (.istore_n 1, 1) := by decide +kernel
theorem d_Mo_read_50 : decode b_Mo_read 50 = .ok (.goto (-33), 3) := by decide +kernel
theorem d_Mo_read_53 : decode b_Mo_read 53 = .ok (.aload_n 0, 1) := by decide +kernel
theorem d_Mo_read_54 : decode b_Mo_read 54 = .ok (.iconst 0, 1) := by decide +kernel
theorem d_Mo_read_55 : decode b_Mo_read 55 = .ok (.putfield 63, 3) := by decide +kernel
theorem d_Mo_read_58 : decode b_Mo_read 58 = .ok (.aload_n 0, 1) := by decide +kernel
theorem d_Mo_read_59 : decode b_Mo_read 59 = .ok (.getfield 70, 3) := by decide +kernel
theorem d_Mo_read_62 : decode b_Mo_read 62 = .ok (.iconst (-1), 1) := by decide +kernel
theorem d_Mo_read_63 : decode b_Mo_read 63 = .ok (.if_icmp .eq 10, 3) := by decide +kernel
theorem d_Mo_read_66 : decode b_Mo_read 66 = .ok (.iconst (-1), 1) := by decide +kernel
theorem d_Mo_read_67 : decode b_Mo_read 67 = .ok (.aload_n 0, 1) := by decide +kernel
theorem d_Mo_read_68 : decode b_Mo_read 68 = .ok (.getfield 70, 3) := by decide +kernel
theorem d_Mo_read_71 : decode b_Mo_read 71 = .ok (.isub, 1) := by decide +kernel
theorem d_Mo_read_72 : decode b_Mo_read 72 = .ok (.ireturn, 1) := by decide +kernel
theorem d_Mo_read_73 : decode b_Mo_read 73 = .ok (.aload_n 0, 1) := by decide +kernel
theorem d_Mo_read_74 : decode b_Mo_read 74 = .ok (.aload_n 0, 1) := by decide +kernel
theorem d_Mo_read_75 : decode b_Mo_read 75 = .ok (.getfield 81, 3) := by decide +kernel
theorem d_Mo_read_78 : decode b_Mo_read 78 = .ok (.putfield 101, 3) := by decide +kernel
theorem d_Mo_read_81 : decode b_Mo_read 81 = .ok (.iconst 0, 1) := by decide +kernel
theorem d_Mo_read_82 : decode b_Mo_read 82 = .ok (.istore_n 2, 1) := by decide +kernel
theorem d_Mo_read_83 : decode b_Mo_read 83 = .ok (.iload_n 2, 1) := by decide +kernel
theorem d_Mo_read_84 : decode b_Mo_read 84 = .ok (.aload_n 0, 1) := by decide +kernel
theorem d_Mo_read_85 : decode b_Mo_read 85 = .ok (.getfield 101, 3) := by decide +kernel
theorem d_Mo_read_88 : decode b_Mo_read 88 = .ok (.if_icmp .ge 93, 3) := by decide +kernel
theorem d_Mo_read_91 : decode b_Mo_read 91 = .ok (.aload_n 0, 1) := by decide +kernel
theorem d_Mo_read_92 : decode b_Mo_read 92 = .ok (.getfield 28, 3) := by decide +kernel
theorem d_Mo_read_95 : decode b_Mo_read 95 = .ok (.iload_n 2, 1) := by decide +kernel
theorem d_Mo_read_96 : decode b_Mo_read 96 = .ok (.aload_n 0, 1) := by decide +kernel
theorem d_Mo_read_97 : decode b_Mo_read 97 = .ok (.getfield 13, 3) := by decide +kernel
theorem d_Mo_read_100 : decode b_Mo_read 100 = .ok (.iload_n 2, 1) := by decide +kernel
theorem d_Mo_read_101 : decode b_Mo_read 101 = .ok (.iaload, 1) := by decide +kernel
theorem d_Mo_read_102 : decode b_Mo_read 102 = .ok (.iastore, 1) := by decide +kernel
theorem d_Mo_read_103 : decode b_Mo_read 103 = .ok (.aload_n 0, 1) := by decide +kernel
theorem d_Mo_read_104 : decode b_Mo_read 104 = .ok (.getfield 31, 3) := by decide +kernel
theorem d_Mo_read_107 : decode b_Mo_read 107 = .ok (.iload_n 2, 1) := by decide +kernel
theorem d_Mo_read_108 : decode b_Mo_read 108 = .ok (.aload_n 0, 1) := by decide +kernel
theorem d_Mo_read_109 : decode b_Mo_read 109 = .ok (.getfield 16, 3) := by decide +kernel
theorem d_Mo_read_112 : decode b_Mo_read 112 = .ok (.iload_n 2, 1) := by decide +kernel
theorem d_Mo_read_113 : decode b_Mo_read 113 = .ok (.iaload, 1) := by decide +kernel
theorem d_Mo_read_114 : decode b_Mo_read 114 = .ok (.iastore, 1) := by decide +kernel
theorem d_Mo_read_115 : decode b_Mo_read 115 = .ok (.aload_n 0, 1) := by decide +kernel
theorem d_Mo_read_116 : decode b_Mo_read 116 = .ok (.getfield 34, 3) := by decide +kernel
theorem d_Mo_read_119 : decode b_Mo_read 119 = .ok (.iload_n 2, 1) := by decide +kernel
theorem d_Mo_read_120 : decode b_Mo_read 120 = .ok (.aload_n 0, 1) := by decide +kernel
theorem d_Mo_read_121 : decode b_Mo_read 121 = .ok (.getfield 19, 3) := by decide +kernel
theorem d_Mo_read_124 : decode b_Mo_read 124 = .ok (.iload_n 2, 1) := by decide +kernel
theorem d_Mo_read_125 : decode b_Mo_read 125 = .ok (.iaload, 1) := by decide +kernel
theorem d_Mo_read_126 : decode b_Mo_read 126 = .ok (.iastore, 1) := by decide +kernel
theorem d_Mo_read_127 : decode b_Mo_read 127 = .ok (.aload_n 0, 1) := by decide +kernel
theorem d_Mo_read_128 : decode b_Mo_read 128 = .ok (.getfield 37, 3) := by decide +kernel
theorem d_Mo_read_131 : decode b_Mo_read 131 = .ok (.iload_n 2, 1) := by decide +kernel
theorem d_Mo_read_132 : decode b_Mo_read 132 = .ok (.aload_n 0, 1) := by decide +kernel
theorem d_Mo_read_133 : decode b_Mo_read 133 = .ok (.getfield 22, 3) := by decide +kernel
theorem d_Mo_read_136 : decode b_Mo_read 136 = .ok (.iload_n 2, 1) := by decide +kernel
theorem d_Mo_read_137 : decode b_Mo_read 137 = .ok (.iaload, 1) := by decide +kernel
theorem d_Mo_read_138 : decode b_Mo_read 138 = .ok (.iastore, 1) := by decide +kernel
theorem d_Mo_read_139 : decode b_Mo_read 139 = .ok (.aload_n 0, 1) := by decide +kernel
theorem d_Mo_read_140 : decode b_Mo_read 140 = .ok (.getfield 40, 3) := by decide +kernel
theorem d_Mo_read_143 : decode b_Mo_read 143 = .ok (.iconst 2, 1) := by decide +kernel
theorem d_Mo_read_144 : decode b_Mo_read 144 = .ok (.iload_n 2, 1) := by decide +kernel
theorem d_Mo_read_145 : decode b_Mo_read 145 = .ok (.imul, 1) := by decide +kernel
theorem d_Mo_read_146 : decode b_Mo_read 146 = .ok (.aload_n 0, 1) := by decide +kernel
theorem d_Mo_read_147 : decode b_Mo_read 147 = .ok (.getfield 25, 3) := by decide +kernel
theorem d_Mo_read_150 : decode b_Mo_read 150 = .ok (.iconst 2, 1) := by decide +kernel
theorem d_Mo_read_151 : decode b_Mo_read 151 = .ok (.iload_n 2, 1) := by decide +kernel
theorem d_Mo_read_152 : decode b_Mo_read 152 = .ok (.imul, 1) := by decide +kernel
theorem d_Mo_read_153 : decode b_Mo_read 153 = .ok (.iaload, 1) := by decide +kernel
theorem d_Mo_read_154 : decode b_Mo_read 154 = .ok (.iastore, 1) := by decide +kernel
theorem d_Mo_read_155 : decode b_Mo_read 155 = .ok (.aload_n 0, 1) := by decide +kernel
theorem d_Mo_read_156 : decode b_Mo_read 156 = .ok (.getfield 40, 3) := by decide +kernel
theorem d_Mo_read_159 : decode b_Mo_read 159 = .ok (.iconst 2, 1) := by decide +kernel
theorem d_Mo_read_160 : decode b_Mo_read 160 = .ok (.iload_n 2, 1) := by decide +kernel
theorem d_Mo_read_161 : decode b_Mo_read 161 = .ok (.imul, 1) := by decide +kernel
theorem d_Mo_read_162 : decode b_Mo_read 162 = .ok (.iconst 1, 1) := by decide +kernel
theorem d_Mo_read_163 : decode b_Mo_read 163 = .ok (.iadd, 1) := by decide +kernel
theorem d_Mo_read_164 : decode b_Mo_read 164 = .ok (.aload_n 0, 1) := by decide +kernel
theorem d_Mo_read_165 : decode b_Mo_read 165 = .ok (.getfield 25, 3) := by decide +kernel
theorem d_Mo_read_168 : decode b_Mo_read 168 = .ok (.iconst 2, 1) := by decide +kernel
theorem d_Mo_read_169 : decode b_Mo_read 169 = .ok (.iload_n 2, 1) := by decide +kernel
theorem d_Mo_read_170 : decode b_Mo_read 170 = .ok (.imul, 1) := by decide +kernel
theorem d_Mo_read_171 : decode b_Mo_read 171 = .ok (.iconst 1, 1) := by decide +kernel
theorem d_Mo_read_172 : decode b_Mo_read 172 = .ok (.iadd, 1) := by decide +kernel
theorem d_Mo_read_173 : decode b_Mo_read 173 = .ok (.iaload, 1) := by decide +kernel
theorem d_Mo_read_174 : decode b_Mo_read 174 = .ok (.iastore, 1) := by decide +kernel
theorem d_Mo_read_175 : decode b_Mo_read 175 = .ok (.iinc 2 1, 3) := by decide +kernel
theorem d_Mo_read_178 : decode b_Mo_read 178 = .ok (.goto (-95), 3) := by decide +kernel
theorem d_Mo_read_181 : decode b_Mo_read 181 = .ok (.aload_n 0, 1) := by decide +kernel
theorem d_Mo_read_182 : decode b_Mo_read 182 = .ok (.invokevirtual 104, 3) := by decide +kernel
theorem d_Mo_read_185 : decode b_Mo_read 185 = .ok (.aload_n 0, 1) := by decide +kernel
theorem d_Mo_read_186 : decode b_Mo_read 186 = .ok (.invokevirtual 107, 3) := by decide +kernel
theorem d_Mo_read_189 : decode b_Mo_read 189 = .ok (.aload_n 0, 1) := by decide +kernel
theorem d_Mo_read_190 : decode b_Mo_read 190 = .ok (.getfield 101, 3) := by decide +kernel
theorem d_Mo_read_193 : decode b_Mo_read 193 = .ok (.ireturn, 1) := by decide +kernel
theorem d_Mo_find_0 : decode b_Mo_find 0 = .ok (.iconst 0, 1) := by decide +kernel
theorem d_Mo_find_1 : decode b_Mo_find 1 = .ok (.istore_n 2, 1) := by decide +kernel
theorem d_Mo_find_2 : decode b_Mo_find 2 = .ok (.iload_n 2, 1) := by decide +kernel
theorem d_Mo_find_3 : decode b_Mo_find 3 = .ok (.aload_n 0, 1) := by decide +kernel
theorem d_Mo_find_4 : decode b_Mo_find 4 = .ok (.getfield 101, 3) := by decide +kernel
theorem d_Mo_find_7 : decode b_Mo_find 7 = .ok (.if_icmp .ge 21, 3) := by decide +kernel
theorem d_Mo_find_10 : decode b_Mo_find 10 = .ok (.aload_n 0, 1) := by decide +kernel
theorem d_Mo_find_11 : decode b_Mo_find 11 = .ok (.getfield 31, 3) := by decide +kernel
theorem d_Mo_find_14 : decode b_Mo_find 14 = .ok (.iload_n 2, 1) := by decide +kernel
theorem d_Mo_find_15 : decode b_Mo_find 15 = .ok (.iaload, 1) := by decide +kernel
theorem d_Mo_find_16 : decode b_Mo_find 16 = .ok (.iload_n 1, 1) := by decide +kernel
theorem d_Mo_find_17 : decode b_Mo_find 17 = .ok (.if_icmp .ne 5, 3) := by decide +kernel
theorem d_Mo_find_20 : decode b_Mo_find 20 = .ok (.iload_n 2, 1) := by decide +kernel
theorem d_Mo_find_21 : decode b_Mo_find 21 = .ok (.ireturn, 1) := by decide +kernel
theorem d_Mo_find_22 : decode b_Mo_find 22 = .ok (.iinc 2 1, 3) := by decide +kernel
theorem d_Mo_find_25 : decode b_Mo_find 25 = .ok (.goto (-23), 3) := by decide +kernel
theorem d_Mo_find_28 : decode b_Mo_find 28 = .ok (.iconst (-1), 1) := by decide +kernel
theorem d_Mo_find_29 : decode b_Mo_find 29 = .ok (.ireturn, 1) := by decide +kernel
theorem d_Mo_target_0 : decode b_Mo_target 0 = .ok (.aload_n 0, 1) := by decide +kernel
theorem d_Mo_target_1 : decode b_Mo_target 1 = .ok (.getfield 40, 3) := by decide +kernel
theorem d_Mo_target_4 : decode b_Mo_target 4 = .ok (.iconst 2, 1) := by decide +kernel
theorem d_Mo_target_5 : decode b_Mo_target 5 = .ok (.iload_n 1, 1) := by decide +kernel
theorem d_Mo_target_6 : decode b_Mo_target 6 = .ok (.imul, 1) := by decide +kernel
theorem d_Mo_target_7 : decode b_Mo_target 7 = .ok (.iload_n 2, 1) := by decide +kernel
theorem d_Mo_target_8 : decode b_Mo_target 8 = .ok (.iadd, 1) := by decide +kernel
theorem d_Mo_target_9 : decode b_Mo_target 9 = .ok (.iaload, 1) := by decide +kernel
theorem d_Mo_target_10 : decode b_Mo_target 10 = .ok (.iconst (-1), 1) := by decide +kernel
theorem d_Mo_target_11 : decode b_Mo_target 11 = .ok (.if_icmp .ne 7, 3) := by decide +kernel
theorem d_Mo_target_14 : decode b_Mo_target 14 = .ok (.iconst (-1), 1) := by decide +kernel
theorem d_Mo_target_15 : decode b_Mo_target 15 = .ok (.goto 17, 3) := by decide +kernel
theorem d_Mo_target_18 : decode b_Mo_target 18 = .ok (.aload_n 0, 1) := by decide +kernel
theorem d_Mo_target_19 : decode b_Mo_target 19 = .ok (.aload_n 0, 1) := by decide +kernel
theorem d_Mo_target_20 : decode b_Mo_target 20 = .ok (.getfield 40, 3) := by decide +kernel
theorem d_Mo_target_23 : decode b_Mo_target 23 = .ok (.iconst 2, 1) := by decide +kernel
theorem d_Mo_target_24 : decode b_Mo_target 24 = .ok (.iload_n 1, 1) := by decide +kernel
theorem d_Mo_target_25 : decode b_Mo_target 25 = .ok (.imul, 1) := by decide +kernel
theorem d_Mo_target_26 : decode b_Mo_target 26 = .ok (.iload_n 2, 1) := by decide +kernel
theorem d_Mo_target_27 : decode b_Mo_target 27 = .ok (.iadd, 1) := by decide +kernel
theorem d_Mo_target_28 : decode b_Mo_target 28 = .ok (.iaload, 1) := by decide +kernel
theorem d_Mo_target_29 : decode b_Mo_target 29 = .ok (.invokevirtual 110, 3) := by decide +kernel
theorem d_Mo_target_32 : decode b_Mo_target 32 = .ok (.ireturn, 1) := by decide +kernel
theorem d_Mo_lay_0 : decode b_Mo_lay 0 = .ok (.iconst 0, 1) := by decide +kernel
theorem d_Mo_lay_1 : decode b_Mo_lay 1 = .ok (.istore_n 1, 1) := by decide +kernel
theorem d_Mo_lay_2 : decode b_Mo_lay 2 = .ok (.iload_n 1, 1) := by decide +kernel
theorem d_Mo_lay_3 : decode b_Mo_lay 3 = .ok (.sipush 576, 3) := by decide +kernel
theorem d_Mo_lay_6 : decode b_Mo_lay 6 = .ok (.if_icmp .ge 16, 3) := by decide +kernel
theorem d_Mo_lay_9 : decode b_Mo_lay 9 = .ok (.aload_n 0, 1) := by decide +kernel
theorem d_Mo_lay_10 : decode b_Mo_lay 10 = .ok (.getfield 43, 3) := by decide +kernel
theorem d_Mo_lay_13 : decode b_Mo_lay 13 = .ok (.iload_n 1, 1) := by decide +kernel
theorem d_Mo_lay_14 : decode b_Mo_lay 14 = .ok (.iconst 0, 1) := by decide +kernel
theorem d_Mo_lay_15 : decode b_Mo_lay 15 = .ok (.bastore, 1) := by decide +kernel
theorem d_Mo_lay_16 : decode b_Mo_lay 16 = .ok (.iinc 1 1, 3) := by decide +kernel
theorem d_Mo_lay_19 : decode b_Mo_lay 19 = .ok (.goto (-17), 3) := by decide +kernel
theorem d_Mo_lay_22 : decode b_Mo_lay 22 = .ok (.iconst 0, 1) := by decide +kernel
theorem d_Mo_lay_23 : decode b_Mo_lay 23 = .ok (.istore_n 1, 1) := by decide +kernel
theorem d_Mo_lay_24 : decode b_Mo_lay 24 = .ok (.iload_n 1, 1) := by decide +kernel
theorem d_Mo_lay_25 : decode b_Mo_lay 25 = .ok (.aload_n 0, 1) := by decide +kernel
theorem d_Mo_lay_26 : decode b_Mo_lay 26 = .ok (.getfield 101, 3) := by decide +kernel
theorem d_Mo_lay_29 : decode b_Mo_lay 29 = .ok (.if_icmp .ge 49, 3) := by decide +kernel
theorem d_Mo_lay_32 : decode b_Mo_lay 32 = .ok (.iconst 0, 1) := by decide +kernel
theorem d_Mo_lay_33 : decode b_Mo_lay 33 = .ok (.istore_n 2, 1) := by decide +kernel
theorem d_Mo_lay_34 : decode b_Mo_lay 34 = .ok (.iload_n 2, 1) := by decide +kernel
theorem d_Mo_lay_35 : decode b_Mo_lay 35 = .ok (.iconst 2, 1) := by decide +kernel
theorem d_Mo_lay_36 : decode b_Mo_lay 36 = .ok (.if_icmp .ge 36, 3) := by decide +kernel
theorem d_Mo_lay_39 : decode b_Mo_lay 39 = .ok (.aload_n 0, 1) := by decide +kernel
theorem d_Mo_lay_40 : decode b_Mo_lay 40 = .ok (.iload_n 1, 1) := by decide +kernel
theorem d_Mo_lay_41 : decode b_Mo_lay 41 = .ok (.iload_n 2, 1) := by decide +kernel
theorem d_Mo_lay_42 : decode b_Mo_lay 42 = .ok (.invokevirtual 113, 3) := by decide +kernel
theorem d_Mo_lay_45 : decode b_Mo_lay 45 = .ok (.iconst (-1), 1) := by decide +kernel
theorem d_Mo_lay_46 : decode b_Mo_lay 46 = .ok (.if_icmp .eq 20, 3) := by decide +kernel
theorem d_Mo_lay_49 : decode b_Mo_lay 49 = .ok (.aload_n 0, 1) := by decide +kernel
theorem d_Mo_lay_50 : decode b_Mo_lay 50 = .ok (.getfield 43, 3) := by decide +kernel
theorem d_Mo_lay_53 : decode b_Mo_lay 53 = .ok (.bipush 24, 2) := by decide +kernel
theorem d_Mo_lay_55 : decode b_Mo_lay 55 = .ok (.iload_n 1, 1) := by decide +kernel
theorem d_Mo_lay_56 : decode b_Mo_lay 56 = .ok (.imul, 1) := by decide +kernel
theorem d_Mo_lay_57 : decode b_Mo_lay 57 = .ok (.aload_n 0, 1) := by decide +kernel
theorem d_Mo_lay_58 : decode b_Mo_lay 58 = .ok (.iload_n 1, 1) := by decide +kernel
theorem d_Mo_lay_59 : decode b_Mo_lay 59 = .ok (.iload_n 2, 1) := by decide +kernel
theorem d_Mo_lay_60 : decode b_Mo_lay 60 = .ok (.invokevirtual 113, 3) := by decide +kernel
theorem d_Mo_lay_63 : decode b_Mo_lay 63 = .ok (.iadd, 1) := by decide +kernel
theorem d_Mo_lay_64 : decode b_Mo_lay 64 = .ok (.iconst 1, 1) := by decide +kernel
theorem d_Mo_lay_65 : decode b_Mo_lay 65 = .ok (.bastore, 1) := by decide +kernel
theorem d_Mo_lay_66 : decode b_Mo_lay 66 = .ok (.iinc 2 1, 3) := by decide +kernel
theorem d_Mo_lay_69 : decode b_Mo_lay 69 = .ok (.goto (-35), 3) := by decide +kernel
theorem d_Mo_lay_72 : decode b_Mo_lay 72 = .ok (.iinc 1 1, 3) := by decide +kernel
theorem d_Mo_lay_75 : decode b_Mo_lay 75 = .ok (.goto (-51), 3) := by decide +kernel
theorem d_Mo_lay_78 : decode b_Mo_lay 78 = .ok (.iconst 0, 1) := by decide +kernel
theorem d_Mo_lay_79 : decode b_Mo_lay 79 = .ok (.istore_n 1, 1) := by decide +kernel
theorem d_Mo_lay_80 : decode b_Mo_lay 80 = .ok (.iload_n 1, 1) := by decide +kernel
theorem d_Mo_lay_81 : decode b_Mo_lay 81 = .ok (.aload_n 0, 1) := by decide +kernel
theorem d_Mo_lay_82 : decode b_Mo_lay 82 = .ok (.getfield 101, 3) := by decide +kernel
theorem d_Mo_lay_85 : decode b_Mo_lay 85 = .ok (.if_icmp .ge 99, 3) := by decide +kernel
theorem d_Mo_lay_88 : decode b_Mo_lay 88 = .ok (.iconst 0, 1) := by decide +kernel
theorem d_Mo_lay_89 : decode b_Mo_lay 89 = .ok (.istore_n 2, 1) := by decide +kernel
theorem d_Mo_lay_90 : decode b_Mo_lay 90 = .ok (.iload_n 2, 1) := by decide +kernel
theorem d_Mo_lay_91 : decode b_Mo_lay 91 = .ok (.aload_n 0, 1) := by decide +kernel
theorem d_Mo_lay_92 : decode b_Mo_lay 92 = .ok (.getfield 101, 3) := by decide +kernel
theorem d_Mo_lay_95 : decode b_Mo_lay 95 = .ok (.if_icmp .ge 83, 3) := by decide +kernel
theorem d_Mo_lay_98 : decode b_Mo_lay 98 = .ok (.iconst 0, 1) := by decide +kernel
theorem d_Mo_lay_99 : decode b_Mo_lay 99 = .ok (.istore_n 3, 1) := by decide +kernel
theorem d_Mo_lay_100 : decode b_Mo_lay 100 = .ok (.iload_n 3, 1) := by decide +kernel
theorem d_Mo_lay_101 : decode b_Mo_lay 101 = .ok (.aload_n 0, 1) := by decide +kernel
theorem d_Mo_lay_102 : decode b_Mo_lay 102 = .ok (.getfield 101, 3) := by decide +kernel
theorem d_Mo_lay_105 : decode b_Mo_lay 105 = .ok (.if_icmp .ge 67, 3) := by decide +kernel
theorem d_Mo_lay_108 : decode b_Mo_lay 108 = .ok (.aload_n 0, 1) := by decide +kernel
theorem d_Mo_lay_109 : decode b_Mo_lay 109 = .ok (.getfield 43, 3) := by decide +kernel
theorem d_Mo_lay_112 : decode b_Mo_lay 112 = .ok (.bipush 24, 2) := by decide +kernel
theorem d_Mo_lay_114 : decode b_Mo_lay 114 = .ok (.iload_n 2, 1) := by decide +kernel
theorem d_Mo_lay_115 : decode b_Mo_lay 115 = .ok (.imul, 1) := by decide +kernel
theorem d_Mo_lay_116 : decode b_Mo_lay 116 = .ok (.iload_n 3, 1) := by decide +kernel
theorem d_Mo_lay_117 : decode b_Mo_lay 117 = .ok (.iadd, 1) := by decide +kernel
theorem d_Mo_lay_118 : decode b_Mo_lay 118 = .ok (.aload_n 0, 1) := by decide +kernel
theorem d_Mo_lay_119 : decode b_Mo_lay 119 = .ok (.getfield 43, 3) := by decide +kernel
theorem d_Mo_lay_122 : decode b_Mo_lay 122 = .ok (.bipush 24, 2) := by decide +kernel
theorem d_Mo_lay_124 : decode b_Mo_lay 124 = .ok (.iload_n 2, 1) := by decide +kernel
theorem d_Mo_lay_125 : decode b_Mo_lay 125 = .ok (.imul, 1) := by decide +kernel
theorem d_Mo_lay_126 : decode b_Mo_lay 126 = .ok (.iload_n 3, 1) := by decide +kernel
theorem d_Mo_lay_127 : decode b_Mo_lay 127 = .ok (.iadd, 1) := by decide +kernel
theorem d_Mo_lay_128 : decode b_Mo_lay 128 = .ok (.baload, 1) := by decide +kernel
theorem d_Mo_lay_129 : decode b_Mo_lay 129 = .ok (.ifCond .ne 31, 3) := by decide +kernel
theorem d_Mo_lay_132 : decode b_Mo_lay 132 = .ok (.aload_n 0, 1) := by decide +kernel
theorem d_Mo_lay_133 : decode b_Mo_lay 133 = .ok (.getfield 43, 3) := by decide +kernel
theorem d_Mo_lay_136 : decode b_Mo_lay 136 = .ok (.bipush 24, 2) := by decide +kernel
theorem d_Mo_lay_138 : decode b_Mo_lay 138 = .ok (.iload_n 2, 1) := by decide +kernel
theorem d_Mo_lay_139 : decode b_Mo_lay 139 = .ok (.imul, 1) := by decide +kernel
theorem d_Mo_lay_140 : decode b_Mo_lay 140 = .ok (.iload_n 1, 1) := by decide +kernel
theorem d_Mo_lay_141 : decode b_Mo_lay 141 = .ok (.iadd, 1) := by decide +kernel
theorem d_Mo_lay_142 : decode b_Mo_lay 142 = .ok (.baload, 1) := by decide +kernel
theorem d_Mo_lay_143 : decode b_Mo_lay 143 = .ok (.ifCond .eq 21, 3) := by decide +kernel
theorem d_Mo_lay_146 : decode b_Mo_lay 146 = .ok (.aload_n 0, 1) := by decide +kernel
theorem d_Mo_lay_147 : decode b_Mo_lay 147 = .ok (.getfield 43, 3) := by decide +kernel
theorem d_Mo_lay_150 : decode b_Mo_lay 150 = .ok (.bipush 24, 2) := by decide +kernel
theorem d_Mo_lay_152 : decode b_Mo_lay 152 = .ok (.iload_n 1, 1) := by decide +kernel
theorem d_Mo_lay_153 : decode b_Mo_lay 153 = .ok (.imul, 1) := by decide +kernel
theorem d_Mo_lay_154 : decode b_Mo_lay 154 = .ok (.iload_n 3, 1) := by decide +kernel
theorem d_Mo_lay_155 : decode b_Mo_lay 155 = .ok (.iadd, 1) := by decide +kernel
theorem d_Mo_lay_156 : decode b_Mo_lay 156 = .ok (.baload, 1) := by decide +kernel
theorem d_Mo_lay_157 : decode b_Mo_lay 157 = .ok (.ifCond .eq 7, 3) := by decide +kernel
theorem d_Mo_lay_160 : decode b_Mo_lay 160 = .ok (.iconst 1, 1) := by decide +kernel
theorem d_Mo_lay_161 : decode b_Mo_lay 161 = .ok (.goto 4, 3) := by decide +kernel
theorem d_Mo_lay_164 : decode b_Mo_lay 164 = .ok (.iconst 0, 1) := by decide +kernel
theorem d_Mo_lay_165 : decode b_Mo_lay 165 = .ok (.bastore, 1) := by decide +kernel
theorem d_Mo_lay_166 : decode b_Mo_lay 166 = .ok (.iinc 3 1, 3) := by decide +kernel
theorem d_Mo_lay_169 : decode b_Mo_lay 169 = .ok (.goto (-69), 3) := by decide +kernel
theorem d_Mo_lay_172 : decode b_Mo_lay 172 = .ok (.iinc 2 1, 3) := by decide +kernel
theorem d_Mo_lay_175 : decode b_Mo_lay 175 = .ok (.goto (-85), 3) := by decide +kernel
theorem d_Mo_lay_178 : decode b_Mo_lay 178 = .ok (.iinc 1 1, 3) := by decide +kernel
theorem d_Mo_lay_181 : decode b_Mo_lay 181 = .ok (.goto (-101), 3) := by decide +kernel
theorem d_Mo_lay_184 : decode b_Mo_lay 184 = .ok (.return_, 1) := by decide +kernel
theorem d_Mo_gapOf_0 : decode b_Mo_gapOf 0 = .ok (.iconst (-1), 1) := by decide +kernel
theorem d_Mo_gapOf_1 : decode b_Mo_gapOf 1 = .ok (.istore_n 2, 1) := by decide +kernel
theorem d_Mo_gapOf_2 : decode b_Mo_gapOf 2 = .ok (.iconst 0, 1) := by decide +kernel
theorem d_Mo_gapOf_3 : decode b_Mo_gapOf 3 = .ok (.istore_n 3, 1) := by decide +kernel
theorem d_Mo_gapOf_4 : decode b_Mo_gapOf 4 = .ok (.iload_n 3, 1) := by decide +kernel
theorem d_Mo_gapOf_5 : decode b_Mo_gapOf 5 = .ok (.aload_n 0, 1) := by decide +kernel
theorem d_Mo_gapOf_6 : decode b_Mo_gapOf 6 = .ok (.getfield 101, 3) := by decide +kernel
theorem d_Mo_gapOf_9 : decode b_Mo_gapOf 9 = .ok (.if_icmp .ge 54, 3) := by decide +kernel
theorem d_Mo_gapOf_12 : decode b_Mo_gapOf 12 = .ok (.aload_n 0, 1) := by decide +kernel
theorem d_Mo_gapOf_13 : decode b_Mo_gapOf 13 = .ok (.getfield 28, 3) := by decide +kernel
theorem d_Mo_gapOf_16 : decode b_Mo_gapOf 16 = .ok (.iload_n 3, 1) := by decide +kernel
theorem d_Mo_gapOf_17 : decode b_Mo_gapOf 17 = .ok (.iaload, 1) := by decide +kernel
theorem d_Mo_gapOf_18 : decode b_Mo_gapOf 18 = .ok (.ifCond .ne 39, 3) := by decide +kernel
theorem d_Mo_gapOf_21 : decode b_Mo_gapOf 21 = .ok (.aload_n 0, 1) := by decide +kernel
theorem d_Mo_gapOf_22 : decode b_Mo_gapOf 22 = .ok (.getfield 43, 3) := by decide +kernel
theorem d_Mo_gapOf_25 : decode b_Mo_gapOf 25 = .ok (.bipush 24, 2) := by decide +kernel
theorem d_Mo_gapOf_27 : decode b_Mo_gapOf 27 = .ok (.iload_n 3, 1) := by decide +kernel
theorem d_Mo_gapOf_28 : decode b_Mo_gapOf 28 = .ok (.imul, 1) := by decide +kernel
theorem d_Mo_gapOf_29 : decode b_Mo_gapOf 29 = .ok (.iload_n 1, 1) := by decide +kernel
theorem d_Mo_gapOf_30 : decode b_Mo_gapOf 30 = .ok (.iadd, 1) := by decide +kernel
theorem d_Mo_gapOf_31 : decode b_Mo_gapOf 31 = .ok (.baload, 1) := by decide +kernel
theorem d_Mo_gapOf_32 : decode b_Mo_gapOf 32 = .ok (.ifCond .eq 25, 3) := by decide +kernel
theorem d_Mo_gapOf_35 : decode b_Mo_gapOf 35 = .ok (.iload_n 2, 1) := by decide +kernel
theorem d_Mo_gapOf_36 : decode b_Mo_gapOf 36 = .ok (.iconst (-1), 1) := by decide +kernel
theorem d_Mo_gapOf_37 : decode b_Mo_gapOf 37 = .ok (.if_icmp .eq 13, 3) := by decide +kernel
theorem d_Mo_gapOf_40 : decode b_Mo_gapOf 40 = .ok (.aload_n 0, 1) := by decide +kernel
theorem d_Mo_gapOf_41 : decode b_Mo_gapOf 41 = .ok (.getfield 34, 3) := by decide +kernel
theorem d_Mo_gapOf_44 : decode b_Mo_gapOf 44 = .ok (.iload_n 3, 1) := by decide +kernel
theorem d_Mo_gapOf_45 : decode b_Mo_gapOf 45 = .ok (.iaload, 1) := by decide +kernel
theorem d_Mo_gapOf_46 : decode b_Mo_gapOf 46 = .ok (.iload_n 2, 1) := by decide +kernel
theorem d_Mo_gapOf_47 : decode b_Mo_gapOf 47 = .ok (.if_icmp .ge 10, 3) := by decide +kernel
theorem d_Mo_gapOf_50 : decode b_Mo_gapOf 50 = .ok (.aload_n 0, 1) := by decide +kernel
theorem d_Mo_gapOf_51 : decode b_Mo_gapOf 51 = .ok (.getfield 34, 3) := by decide +kernel
theorem d_Mo_gapOf_54 : decode b_Mo_gapOf 54 = .ok (.iload_n 3, 1) := by decide +kernel
theorem d_Mo_gapOf_55 : decode b_Mo_gapOf 55 = .ok (.iaload, 1) := by decide +kernel
theorem d_Mo_gapOf_56 : decode b_Mo_gapOf 56 = .ok (.istore_n 2, 1) := by decide +kernel
theorem d_Mo_gapOf_57 : decode b_Mo_gapOf 57 = .ok (.iinc 3 1, 3) := by decide +kernel
theorem d_Mo_gapOf_60 : decode b_Mo_gapOf 60 = .ok (.goto (-56), 3) := by decide +kernel
theorem d_Mo_gapOf_63 : decode b_Mo_gapOf 63 = .ok (.iload_n 2, 1) := by decide +kernel
theorem d_Mo_gapOf_64 : decode b_Mo_gapOf 64 = .ok (.ireturn, 1) := by decide +kernel
theorem d_Mo_isWrong_0 : decode b_Mo_isWrong 0 = .ok (.iload_n 1, 1) := by decide +kernel
theorem d_Mo_isWrong_1 : decode b_Mo_isWrong 1 = .ok (.tableswitch 231 1 5 #[35, 65, 104, 194, 206], 35) := by decide +kernel
theorem d_Mo_isWrong_36 : decode b_Mo_isWrong 36 = .ok (.aload_n 0, 1) := by decide +kernel
theorem d_Mo_isWrong_37 : decode b_Mo_isWrong 37 = .ok (.getfield 40, 3) := by decide +kernel
theorem d_Mo_isWrong_40 : decode b_Mo_isWrong 40 = .ok (.iconst 2, 1) := by decide +kernel
theorem d_Mo_isWrong_41 : decode b_Mo_isWrong 41 = .ok (.iload_n 2, 1) := by decide +kernel
theorem d_Mo_isWrong_42 : decode b_Mo_isWrong 42 = .ok (.imul, 1) := by decide +kernel
theorem d_Mo_isWrong_43 : decode b_Mo_isWrong 43 = .ok (.iload_n 3, 1) := by decide +kernel
theorem d_Mo_isWrong_44 : decode b_Mo_isWrong 44 = .ok (.iadd, 1) := by decide +kernel
theorem d_Mo_isWrong_45 : decode b_Mo_isWrong 45 = .ok (.iaload, 1) := by decide +kernel
theorem d_Mo_isWrong_46 : decode b_Mo_isWrong 46 = .ok (.iconst (-1), 1) := by decide +kernel
theorem d_Mo_isWrong_47 : decode b_Mo_isWrong 47 = .ok (.if_icmp .eq 17, 3) := by decide +kernel
theorem d_Mo_isWrong_50 : decode b_Mo_isWrong 50 = .ok (.aload_n 0, 1) := by decide +kernel
theorem d_Mo_isWrong_51 : decode b_Mo_isWrong 51 = .ok (.iload_n 2, 1) := by decide +kernel
theorem d_Mo_isWrong_52 : decode b_Mo_isWrong 52 = .ok (.iload_n 3, 1) := by decide +kernel
theorem d_Mo_isWrong_53 : decode b_Mo_isWrong 53 = .ok (.invokevirtual 113, 3) := by decide +kernel
theorem d_Mo_isWrong_56 : decode b_Mo_isWrong 56 = .ok (.iconst (-1), 1) := by decide +kernel
theorem d_Mo_isWrong_57 : decode b_Mo_isWrong 57 = .ok (.if_icmp .ne 7, 3) := by decide +kernel
theorem d_Mo_isWrong_60 : decode b_Mo_isWrong 60 = .ok (.iconst 1, 1) := by decide +kernel
theorem d_Mo_isWrong_61 : decode b_Mo_isWrong 61 = .ok (.goto 4, 3) := by decide +kernel
theorem d_Mo_isWrong_64 : decode b_Mo_isWrong 64 = .ok (.iconst 0, 1) := by decide +kernel
theorem d_Mo_isWrong_65 : decode b_Mo_isWrong 65 = .ok (.ireturn, 1) := by decide +kernel
theorem d_Mo_isWrong_66 : decode b_Mo_isWrong 66 = .ok (.aload_n 0, 1) := by decide +kernel
theorem d_Mo_isWrong_67 : decode b_Mo_isWrong 67 = .ok (.getfield 28, 3) := by decide +kernel
theorem d_Mo_isWrong_70 : decode b_Mo_isWrong 70 = .ok (.iload_n 2, 1) := by decide +kernel
theorem d_Mo_isWrong_71 : decode b_Mo_isWrong 71 = .ok (.iaload, 1) := by decide +kernel
theorem d_Mo_isWrong_72 : decode b_Mo_isWrong 72 = .ok (.iconst 3, 1) := by decide +kernel
theorem d_Mo_isWrong_73 : decode b_Mo_isWrong 73 = .ok (.if_icmp .ne 30, 3) := by decide +kernel
theorem d_Mo_isWrong_76 : decode b_Mo_isWrong 76 = .ok (.aload_n 0, 1) := by decide +kernel
theorem d_Mo_isWrong_77 : decode b_Mo_isWrong 77 = .ok (.iload_n 2, 1) := by decide +kernel
theorem d_Mo_isWrong_78 : decode b_Mo_isWrong 78 = .ok (.invokevirtual 116, 3) := by decide +kernel
theorem d_Mo_isWrong_81 : decode b_Mo_isWrong 81 = .ok (.iconst (-1), 1) := by decide +kernel
theorem d_Mo_isWrong_82 : decode b_Mo_isWrong 82 = .ok (.if_icmp .eq 21, 3) := by decide +kernel
theorem d_Mo_isWrong_85 : decode b_Mo_isWrong 85 = .ok (.aload_n 0, 1) := by decide +kernel
theorem d_Mo_isWrong_86 : decode b_Mo_isWrong 86 = .ok (.getfield 34, 3) := by decide +kernel
theorem d_Mo_isWrong_89 : decode b_Mo_isWrong 89 = .ok (.iload_n 2, 1) := by decide +kernel
theorem d_Mo_isWrong_90 : decode b_Mo_isWrong 90 = .ok (.iaload, 1) := by decide +kernel
theorem d_Mo_isWrong_91 : decode b_Mo_isWrong 91 = .ok (.aload_n 0, 1) := by decide +kernel
theorem d_Mo_isWrong_92 : decode b_Mo_isWrong 92 = .ok (.iload_n 2, 1) := by decide +kernel
theorem d_Mo_isWrong_93 : decode b_Mo_isWrong 93 = .ok (.invokevirtual 116, 3) := by decide +kernel
theorem d_Mo_isWrong_96 : decode b_Mo_isWrong 96 = .ok (.if_icmp .le 7, 3) := by decide +kernel
theorem d_Mo_isWrong_99 : decode b_Mo_isWrong 99 = .ok (.iconst 1, 1) := by decide +kernel
theorem d_Mo_isWrong_100 : decode b_Mo_isWrong 100 = .ok (.goto 4, 3) := by decide +kernel
theorem d_Mo_isWrong_103 : decode b_Mo_isWrong 103 = .ok (.iconst 0, 1) := by decide +kernel
theorem d_Mo_isWrong_104 : decode b_Mo_isWrong 104 = .ok (.ireturn, 1) := by decide +kernel
theorem d_Mo_isWrong_105 : decode b_Mo_isWrong 105 = .ok (.aload_n 0, 1) := by decide +kernel
theorem d_Mo_isWrong_106 : decode b_Mo_isWrong 106 = .ok (.iload_n 2, 1) := by decide +kernel
theorem d_Mo_isWrong_107 : decode b_Mo_isWrong 107 = .ok (.iconst 0, 1) := by decide +kernel
theorem d_Mo_isWrong_108 : decode b_Mo_isWrong 108 = .ok (.invokevirtual 113, 3) := by decide +kernel
theorem d_Mo_isWrong_111 : decode b_Mo_isWrong 111 = .ok (.iconst (-1), 1) := by decide +kernel
theorem d_Mo_isWrong_112 : decode b_Mo_isWrong 112 = .ok (.if_icmp .eq 22, 3) := by decide +kernel
theorem d_Mo_isWrong_115 : decode b_Mo_isWrong 115 = .ok (.aload_n 0, 1) := by decide +kernel
theorem d_Mo_isWrong_116 : decode b_Mo_isWrong 116 = .ok (.getfield 28, 3) := by decide +kernel
theorem d_Mo_isWrong_119 : decode b_Mo_isWrong 119 = .ok (.aload_n 0, 1) := by decide +kernel
theorem d_Mo_isWrong_120 : decode b_Mo_isWrong 120 = .ok (.iload_n 2, 1) := by decide +kernel
theorem d_Mo_isWrong_121 : decode b_Mo_isWrong 121 = .ok (.iconst 0, 1) := by decide +kernel
theorem d_Mo_isWrong_122 : decode b_Mo_isWrong 122 = .ok (.invokevirtual 113, 3) := by decide +kernel
theorem d_Mo_isWrong_125 : decode b_Mo_isWrong 125 = .ok (.iaload, 1) := by decide +kernel
theorem d_Mo_isWrong_126 : decode b_Mo_isWrong 126 = .ok (.iconst 3, 1) := by decide +kernel
theorem d_Mo_isWrong_127 : decode b_Mo_isWrong 127 = .ok (.if_icmp .ne 7, 3) := by decide +kernel
theorem d_Mo_isWrong_130 : decode b_Mo_isWrong 130 = .ok (.iconst 1, 1) := by decide +kernel
theorem d_Mo_isWrong_131 : decode b_Mo_isWrong 131 = .ok (.goto 4, 3) := by decide +kernel
theorem d_Mo_isWrong_134 : decode b_Mo_isWrong 134 = .ok (.iconst 0, 1) := by decide +kernel
theorem d_Mo_isWrong_135 : decode b_Mo_isWrong 135 = .ok (.istore 4, 2) := by decide +kernel
theorem d_Mo_isWrong_137 : decode b_Mo_isWrong 137 = .ok (.aload_n 0, 1) := by decide +kernel
theorem d_Mo_isWrong_138 : decode b_Mo_isWrong 138 = .ok (.iload_n 2, 1) := by decide +kernel
theorem d_Mo_isWrong_139 : decode b_Mo_isWrong 139 = .ok (.iconst 1, 1) := by decide +kernel
theorem d_Mo_isWrong_140 : decode b_Mo_isWrong 140 = .ok (.invokevirtual 113, 3) := by decide +kernel
theorem d_Mo_isWrong_143 : decode b_Mo_isWrong 143 = .ok (.iconst (-1), 1) := by decide +kernel
theorem d_Mo_isWrong_144 : decode b_Mo_isWrong 144 = .ok (.if_icmp .eq 22, 3) := by decide +kernel
theorem d_Mo_isWrong_147 : decode b_Mo_isWrong 147 = .ok (.aload_n 0, 1) := by decide +kernel
theorem d_Mo_isWrong_148 : decode b_Mo_isWrong 148 = .ok (.getfield 28, 3) := by decide +kernel
theorem d_Mo_isWrong_151 : decode b_Mo_isWrong 151 = .ok (.aload_n 0, 1) := by decide +kernel
theorem d_Mo_isWrong_152 : decode b_Mo_isWrong 152 = .ok (.iload_n 2, 1) := by decide +kernel
theorem d_Mo_isWrong_153 : decode b_Mo_isWrong 153 = .ok (.iconst 1, 1) := by decide +kernel
theorem d_Mo_isWrong_154 : decode b_Mo_isWrong 154 = .ok (.invokevirtual 113, 3) := by decide +kernel
theorem d_Mo_isWrong_157 : decode b_Mo_isWrong 157 = .ok (.iaload, 1) := by decide +kernel
theorem d_Mo_isWrong_158 : decode b_Mo_isWrong 158 = .ok (.iconst 3, 1) := by decide +kernel
theorem d_Mo_isWrong_159 : decode b_Mo_isWrong 159 = .ok (.if_icmp .ne 7, 3) := by decide +kernel
theorem d_Mo_isWrong_162 : decode b_Mo_isWrong 162 = .ok (.iconst 1, 1) := by decide +kernel
theorem d_Mo_isWrong_163 : decode b_Mo_isWrong 163 = .ok (.goto 4, 3) := by decide +kernel
theorem d_Mo_isWrong_166 : decode b_Mo_isWrong 166 = .ok (.iconst 0, 1) := by decide +kernel
theorem d_Mo_isWrong_167 : decode b_Mo_isWrong 167 = .ok (.istore 5, 2) := by decide +kernel
theorem d_Mo_isWrong_169 : decode b_Mo_isWrong 169 = .ok (.aload_n 0, 1) := by decide +kernel
theorem d_Mo_isWrong_170 : decode b_Mo_isWrong 170 = .ok (.getfield 28, 3) := by decide +kernel
theorem d_Mo_isWrong_173 : decode b_Mo_isWrong 173 = .ok (.iload_n 2, 1) := by decide +kernel
theorem d_Mo_isWrong_174 : decode b_Mo_isWrong 174 = .ok (.iaload, 1) := by decide +kernel
theorem d_Mo_isWrong_175 : decode b_Mo_isWrong 175 = .ok (.iconst 3, 1) := by decide +kernel
theorem d_Mo_isWrong_176 : decode b_Mo_isWrong 176 = .ok (.if_icmp .ne 17, 3) := by decide +kernel
theorem d_Mo_isWrong_179 : decode b_Mo_isWrong 179 = .ok (.iload 4, 2) := by decide +kernel
theorem d_Mo_isWrong_181 : decode b_Mo_isWrong 181 = .ok (.ifCond .ne 8, 3) := by decide +kernel
theorem d_Mo_isWrong_184 : decode b_Mo_isWrong 184 = .ok (.iload 5, 2) := by decide +kernel
theorem d_Mo_isWrong_186 : decode b_Mo_isWrong 186 = .ok (.ifCond .eq 7, 3) := by decide +kernel
theorem d_Mo_isWrong_189 : decode b_Mo_isWrong 189 = .ok (.iconst 1, 1) := by decide +kernel
theorem d_Mo_isWrong_190 : decode b_Mo_isWrong 190 = .ok (.goto 4, 3) := by decide +kernel
theorem d_Mo_isWrong_193 : decode b_Mo_isWrong 193 = .ok (.iconst 0, 1) := by decide +kernel
theorem d_Mo_isWrong_194 : decode b_Mo_isWrong 194 = .ok (.ireturn, 1) := by decide +kernel
theorem d_Mo_isWrong_195 : decode b_Mo_isWrong 195 = .ok (.aload_n 0, 1) := by decide +kernel
theorem d_Mo_isWrong_196 : decode b_Mo_isWrong 196 = .ok (.getfield 43, 3) := by decide +kernel
theorem d_Mo_isWrong_199 : decode b_Mo_isWrong 199 = .ok (.bipush 24, 2) := by decide +kernel
theorem d_Mo_isWrong_201 : decode b_Mo_isWrong 201 = .ok (.iload_n 2, 1) := by decide +kernel
theorem d_Mo_isWrong_202 : decode b_Mo_isWrong 202 = .ok (.imul, 1) := by decide +kernel
theorem d_Mo_isWrong_203 : decode b_Mo_isWrong 203 = .ok (.iload_n 2, 1) := by decide +kernel
theorem d_Mo_isWrong_204 : decode b_Mo_isWrong 204 = .ok (.iadd, 1) := by decide +kernel
theorem d_Mo_isWrong_205 : decode b_Mo_isWrong 205 = .ok (.baload, 1) := by decide +kernel
theorem d_Mo_isWrong_206 : decode b_Mo_isWrong 206 = .ok (.ireturn, 1) := by decide +kernel
theorem d_Mo_isWrong_207 : decode b_Mo_isWrong 207 = .ok (.aload_n 0, 1) := by decide +kernel
theorem d_Mo_isWrong_208 : decode b_Mo_isWrong 208 = .ok (.getfield 28, 3) := by decide +kernel
theorem d_Mo_isWrong_211 : decode b_Mo_isWrong 211 = .ok (.iload_n 2, 1) := by decide +kernel
theorem d_Mo_isWrong_212 : decode b_Mo_isWrong 212 = .ok (.iaload, 1) := by decide +kernel
theorem d_Mo_isWrong_213 : decode b_Mo_isWrong 213 = .ok (.iconst 4, 1) := by decide +kernel
theorem d_Mo_isWrong_214 : decode b_Mo_isWrong 214 = .ok (.if_icmp .ne 16, 3) := by decide +kernel
theorem d_Mo_isWrong_217 : decode b_Mo_isWrong 217 = .ok (.aload_n 0, 1) := by decide +kernel
theorem d_Mo_isWrong_218 : decode b_Mo_isWrong 218 = .ok (.iload_n 2, 1) := by decide +kernel
theorem d_Mo_isWrong_219 : decode b_Mo_isWrong 219 = .ok (.invokevirtual 116, 3) := by decide +kernel
theorem d_Mo_isWrong_222 : decode b_Mo_isWrong 222 = .ok (.iconst (-1), 1) := by decide +kernel
theorem d_Mo_isWrong_223 : decode b_Mo_isWrong 223 = .ok (.if_icmp .ne 7, 3) := by decide +kernel
theorem d_Mo_isWrong_226 : decode b_Mo_isWrong 226 = .ok (.iconst 1, 1) := by decide +kernel
theorem d_Mo_isWrong_227 : decode b_Mo_isWrong 227 = .ok (.goto 4, 3) := by decide +kernel
theorem d_Mo_isWrong_230 : decode b_Mo_isWrong 230 = .ok (.iconst 0, 1) := by decide +kernel
theorem d_Mo_isWrong_231 : decode b_Mo_isWrong 231 = .ok (.ireturn, 1) := by decide +kernel
theorem d_Mo_isWrong_232 : decode b_Mo_isWrong 232 = .ok (.iconst 0, 1) := by decide +kernel
theorem d_Mo_isWrong_233 : decode b_Mo_isWrong 233 = .ok (.istore 6, 2) := by decide +kernel
theorem d_Mo_isWrong_235 : decode b_Mo_isWrong 235 = .ok (.iconst 0, 1) := by decide +kernel
theorem d_Mo_isWrong_236 : decode b_Mo_isWrong 236 = .ok (.istore 7, 2) := by decide +kernel
theorem d_Mo_isWrong_238 : decode b_Mo_isWrong 238 = .ok (.iload 7, 2) := by decide +kernel
theorem d_Mo_isWrong_240 : decode b_Mo_isWrong 240 = .ok (.aload_n 0, 1) := by decide +kernel
theorem d_Mo_isWrong_241 : decode b_Mo_isWrong 241 = .ok (.getfield 101, 3) := by decide +kernel
theorem d_Mo_isWrong_244 : decode b_Mo_isWrong 244 = .ok (.if_icmp .ge 36, 3) := by decide +kernel
theorem d_Mo_isWrong_247 : decode b_Mo_isWrong 247 = .ok (.iload 6, 2) := by decide +kernel
theorem d_Mo_isWrong_249 : decode b_Mo_isWrong 249 = .ok (.ifCond .ne 18, 3) := by decide +kernel
theorem d_Mo_isWrong_252 : decode b_Mo_isWrong 252 = .ok (.aload_n 0, 1) := by decide +kernel
theorem d_Mo_isWrong_253 : decode b_Mo_isWrong 253 = .ok (.getfield 43, 3) := by decide +kernel
theorem d_Mo_isWrong_256 : decode b_Mo_isWrong 256 = .ok (.bipush 24, 2) := by decide +kernel
theorem d_Mo_isWrong_258 : decode b_Mo_isWrong 258 = .ok (.iload 7, 2) := by decide +kernel
theorem d_Mo_isWrong_260 : decode b_Mo_isWrong 260 = .ok (.imul, 1) := by decide +kernel
theorem d_Mo_isWrong_261 : decode b_Mo_isWrong 261 = .ok (.iload_n 2, 1) := by decide +kernel
theorem d_Mo_isWrong_262 : decode b_Mo_isWrong 262 = .ok (.iadd, 1) := by decide +kernel
theorem d_Mo_isWrong_263 : decode b_Mo_isWrong 263 = .ok (.baload, 1) := by decide +kernel
theorem d_Mo_isWrong_264 : decode b_Mo_isWrong 264 = .ok (.ifCond .eq 7, 3) := by decide +kernel
theorem d_Mo_isWrong_267 : decode b_Mo_isWrong 267 = .ok (.iconst 1, 1) := by decide +kernel
theorem d_Mo_isWrong_268 : decode b_Mo_isWrong 268 = .ok (.goto 4, 3) := by decide +kernel
theorem d_Mo_isWrong_271 : decode b_Mo_isWrong 271 = .ok (.iconst 0, 1) := by decide +kernel
theorem d_Mo_isWrong_272 : decode b_Mo_isWrong 272 = .ok (.istore 6, 2) := by decide +kernel
theorem d_Mo_isWrong_274 : decode b_Mo_isWrong 274 = .ok (.iinc 7 1, 3) := by decide +kernel
theorem d_Mo_isWrong_277 : decode b_Mo_isWrong 277 = .ok (.goto (-39), 3) := by decide +kernel
theorem d_Mo_isWrong_280 : decode b_Mo_isWrong 280 = .ok (.aload_n 0, 1) := by decide +kernel
theorem d_Mo_isWrong_281 : decode b_Mo_isWrong 281 = .ok (.getfield 28, 3) := by decide +kernel
theorem d_Mo_isWrong_284 : decode b_Mo_isWrong 284 = .ok (.iload_n 2, 1) := by decide +kernel
theorem d_Mo_isWrong_285 : decode b_Mo_isWrong 285 = .ok (.iaload, 1) := by decide +kernel
theorem d_Mo_isWrong_286 : decode b_Mo_isWrong 286 = .ok (.ifCond .ne 12, 3) := by decide +kernel
theorem d_Mo_isWrong_289 : decode b_Mo_isWrong 289 = .ok (.iload 6, 2) := by decide +kernel
theorem d_Mo_isWrong_291 : decode b_Mo_isWrong 291 = .ok (.ifCond .eq 7, 3) := by decide +kernel
theorem d_Mo_isWrong_294 : decode b_Mo_isWrong 294 = .ok (.iconst 1, 1) := by decide +kernel
theorem d_Mo_isWrong_295 : decode b_Mo_isWrong 295 = .ok (.goto 4, 3) := by decide +kernel
theorem d_Mo_isWrong_298 : decode b_Mo_isWrong 298 = .ok (.iconst 0, 1) := by decide +kernel
theorem d_Mo_isWrong_299 : decode b_Mo_isWrong 299 = .ok (.ireturn, 1) := by decide +kernel
theorem d_Mo_judge_0 : decode b_Mo_judge 0 = .ok (.aload_n 0, 1) := by decide +kernel
theorem d_Mo_judge_1 : decode b_Mo_judge 1 = .ok (.iconst 0, 1) := by decide +kernel
theorem d_Mo_judge_2 : decode b_Mo_judge 2 = .ok (.putfield 119, 3) := by decide +kernel
theorem d_Mo_judge_5 : decode b_Mo_judge 5 = .ok (.iconst 1, 1) := by decide +kernel
theorem d_Mo_judge_6 : decode b_Mo_judge 6 = .ok (.istore_n 1, 1) := by decide +kernel
theorem d_Mo_judge_7 : decode b_Mo_judge 7 = .ok (.iload_n 1, 1) := by decide +kernel
theorem d_Mo_judge_8 : decode b_Mo_judge 8 = .ok (.bipush 7, 2) := by decide +kernel
theorem d_Mo_judge_10 : decode b_Mo_judge 10 = .ok (.if_icmp .ge 111, 3) := by decide +kernel
theorem d_Mo_judge_13 : decode b_Mo_judge 13 = .ok (.iconst 0, 1) := by decide +kernel
theorem d_Mo_judge_14 : decode b_Mo_judge 14 = .ok (.istore_n 2, 1) := by decide +kernel
theorem d_Mo_judge_15 : decode b_Mo_judge 15 = .ok (.iload_n 2, 1) := by decide +kernel
theorem d_Mo_judge_16 : decode b_Mo_judge 16 = .ok (.aload_n 0, 1) := by decide +kernel
theorem d_Mo_judge_17 : decode b_Mo_judge 17 = .ok (.getfield 101, 3) := by decide +kernel
theorem d_Mo_judge_20 : decode b_Mo_judge 20 = .ok (.if_icmp .ge 95, 3) := by decide +kernel
theorem d_Mo_judge_23 : decode b_Mo_judge 23 = .ok (.iconst 0, 1) := by decide +kernel
theorem d_Mo_judge_24 : decode b_Mo_judge 24 = .ok (.istore_n 3, 1) := by decide +kernel
theorem d_Mo_judge_25 : decode b_Mo_judge 25 = .ok (.iload_n 3, 1) := by decide +kernel
theorem d_Mo_judge_26 : decode b_Mo_judge 26 = .ok (.iload_n 1, 1) := by decide +kernel
theorem d_Mo_judge_27 : decode b_Mo_judge 27 = .ok (.iconst 1, 1) := by decide +kernel
theorem d_Mo_judge_28 : decode b_Mo_judge 28 = .ok (.if_icmp .ne 7, 3) := by decide +kernel
theorem d_Mo_judge_31 : decode b_Mo_judge 31 = .ok (.iconst 2, 1) := by decide +kernel
theorem d_Mo_judge_32 : decode b_Mo_judge 32 = .ok (.goto 4, 3) := by decide +kernel
theorem d_Mo_judge_35 : decode b_Mo_judge 35 = .ok (.iconst 1, 1) := by decide +kernel
theorem d_Mo_judge_36 : decode b_Mo_judge 36 = .ok (.if_icmp .ge 73, 3) := by decide +kernel
theorem d_Mo_judge_39 : decode b_Mo_judge 39 = .ok (.aload_n 0, 1) := by decide +kernel
theorem d_Mo_judge_40 : decode b_Mo_judge 40 = .ok (.iload_n 1, 1) := by decide +kernel
theorem d_Mo_judge_41 : decode b_Mo_judge 41 = .ok (.iload_n 2, 1) := by decide +kernel
theorem d_Mo_judge_42 : decode b_Mo_judge 42 = .ok (.iload_n 3, 1) := by decide +kernel
theorem d_Mo_judge_43 : decode b_Mo_judge 43 = .ok (.invokevirtual 122, 3) := by decide +kernel
theorem d_Mo_judge_46 : decode b_Mo_judge 46 = .ok (.ifCond .eq 57, 3) := by decide +kernel
theorem d_Mo_judge_49 : decode b_Mo_judge 49 = .ok (.aload_n 0, 1) := by decide +kernel
theorem d_Mo_judge_50 : decode b_Mo_judge 50 = .ok (.getfield 47, 3) := by decide +kernel
theorem d_Mo_judge_53 : decode b_Mo_judge 53 = .ok (.aload_n 0, 1) := by decide +kernel
theorem d_Mo_judge_54 : decode b_Mo_judge 54 = .ok (.getfield 119, 3) := by decide +kernel
theorem d_Mo_judge_57 : decode b_Mo_judge 57 = .ok (.iload_n 1, 1) := by decide +kernel
theorem d_Mo_judge_58 : decode b_Mo_judge 58 = .ok (.iastore, 1) := by decide +kernel
theorem d_Mo_judge_59 : decode b_Mo_judge 59 = .ok (.aload_n 0, 1) := by decide +kernel
theorem d_Mo_judge_60 : decode b_Mo_judge 60 = .ok (.getfield 50, 3) := by decide +kernel
theorem d_Mo_judge_63 : decode b_Mo_judge 63 = .ok (.aload_n 0, 1) := by decide +kernel
theorem d_Mo_judge_64 : decode b_Mo_judge 64 = .ok (.getfield 119, 3) := by decide +kernel
theorem d_Mo_judge_67 : decode b_Mo_judge 67 = .ok (.aload_n 0, 1) := by decide +kernel
theorem d_Mo_judge_68 : decode b_Mo_judge 68 = .ok (.getfield 31, 3) := by decide +kernel
theorem d_Mo_judge_71 : decode b_Mo_judge 71 = .ok (.iload_n 2, 1) := by decide +kernel
theorem d_Mo_judge_72 : decode b_Mo_judge 72 = .ok (.iaload, 1) := by decide +kernel
theorem d_Mo_judge_73 : decode b_Mo_judge 73 = .ok (.iastore, 1) := by decide +kernel
theorem d_Mo_judge_74 : decode b_Mo_judge 74 = .ok (.aload_n 0, 1) := by decide +kernel
theorem d_Mo_judge_75 : decode b_Mo_judge 75 = .ok (.getfield 53, 3) := by decide +kernel
theorem d_Mo_judge_78 : decode b_Mo_judge 78 = .ok (.aload_n 0, 1) := by decide +kernel
theorem d_Mo_judge_79 : decode b_Mo_judge 79 = .ok (.getfield 119, 3) := by decide +kernel
theorem d_Mo_judge_82 : decode b_Mo_judge 82 = .ok (.iload_n 1, 1) := by decide +kernel
theorem d_Mo_judge_83 : decode b_Mo_judge 83 = .ok (.iconst 1, 1) := by decide +kernel
theorem d_Mo_judge_84 : decode b_Mo_judge 84 = .ok (.if_icmp .ne 7, 3) := by decide +kernel
theorem d_Mo_judge_87 : decode b_Mo_judge 87 = .ok (.iload_n 3, 1) := by decide +kernel
theorem d_Mo_judge_88 : decode b_Mo_judge 88 = .ok (.goto 4, 3) := by decide +kernel
theorem d_Mo_judge_91 : decode b_Mo_judge 91 = .ok (.iconst (-1), 1) := by decide +kernel
theorem d_Mo_judge_92 : decode b_Mo_judge 92 = .ok (.iastore, 1) := by decide +kernel
theorem d_Mo_judge_93 : decode b_Mo_judge 93 = .ok (.aload_n 0, 1) := by decide +kernel
theorem d_Mo_judge_94 : decode b_Mo_judge 94 = .ok (.dup, 1) := by decide +kernel
theorem d_Mo_judge_95 : decode b_Mo_judge 95 = .ok (.getfield 119, 3) := by decide +kernel
theorem d_Mo_judge_98 : decode b_Mo_judge 98 = .ok (.iconst 1, 1) := by decide +kernel
theorem d_Mo_judge_99 : decode b_Mo_judge 99 = .ok (.iadd, 1) := by decide +kernel
theorem d_Mo_judge_100 : decode b_Mo_judge 100 = .ok (.putfield 119, 3) := by decide +kernel
theorem d_Mo_judge_103 : decode b_Mo_judge 103 = .ok (.iinc 3 1, 3) := by decide +kernel
theorem d_Mo_judge_106 : decode b_Mo_judge 106 = .ok (.goto (-81), 3) := by decide +kernel
theorem d_Mo_judge_109 : decode b_Mo_judge 109 = .ok (.iinc 2 1, 3) := by decide +kernel
theorem d_Mo_judge_112 : decode b_Mo_judge 112 = .ok (.goto (-97), 3) := by decide +kernel
theorem d_Mo_judge_115 : decode b_Mo_judge 115 = .ok (.iinc 1 1, 3) := by decide +kernel
theorem d_Mo_judge_118 : decode b_Mo_judge 118 = .ok (.goto (-111), 3) := by decide +kernel
theorem d_Mo_judge_121 : decode b_Mo_judge 121 = .ok (.return_, 1) := by decide +kernel
theorem d_Mo_part_0 : decode b_Mo_part 0 = .ok (.iload_n 2, 1) := by decide +kernel
theorem d_Mo_part_1 : decode b_Mo_part 1 = .ok (.ifCond .lt 8, 3) := by decide +kernel
theorem d_Mo_part_4 : decode b_Mo_part 4 = .ok (.iload_n 2, 1) := by decide +kernel
theorem d_Mo_part_5 : decode b_Mo_part 5 = .ok (.iconst 5, 1) := by decide +kernel
theorem d_Mo_part_6 : decode b_Mo_part 6 = .ok (.if_icmp .le 6, 3) := by decide +kernel
theorem d_Mo_part_9 : decode b_Mo_part 9 = .ok (.bipush (-12), 2) := by decide +kernel
theorem d_Mo_part_11 : decode b_Mo_part 11 = .ok (.ireturn, 1) := by decide +kernel
theorem d_Mo_part_12 : decode b_Mo_part 12 = .ok (.iload_n 1, 1) := by decide +kernel
theorem d_Mo_part_13 : decode b_Mo_part 13 = .ok (.ifCond .lt 11, 3) := by decide +kernel
theorem d_Mo_part_16 : decode b_Mo_part 16 = .ok (.iload_n 1, 1) := by decide +kernel
theorem d_Mo_part_17 : decode b_Mo_part 17 = .ok (.aload_n 0, 1) := by decide +kernel
theorem d_Mo_part_18 : decode b_Mo_part 18 = .ok (.getfield 101, 3) := by decide +kernel
theorem d_Mo_part_21 : decode b_Mo_part 21 = .ok (.if_icmp .lt 5, 3) := by decide +kernel
theorem d_Mo_part_24 : decode b_Mo_part 24 = .ok (.iconst (-1), 1) := by decide +kernel
theorem d_Mo_part_25 : decode b_Mo_part 25 = .ok (.ireturn, 1) := by decide +kernel
theorem d_Mo_part_26 : decode b_Mo_part 26 = .ok (.iload_n 2, 1) := by decide +kernel
theorem d_Mo_part_27 : decode b_Mo_part 27 = .ok (.ifCond .ne 12, 3) := by decide +kernel
theorem d_Mo_part_30 : decode b_Mo_part 30 = .ok (.aload_n 0, 1) := by decide +kernel
theorem d_Mo_part_31 : decode b_Mo_part 31 = .ok (.getfield 28, 3) := by decide +kernel
theorem d_Mo_part_34 : decode b_Mo_part 34 = .ok (.iload_n 1, 1) := by decide +kernel
theorem d_Mo_part_35 : decode b_Mo_part 35 = .ok (.iaload, 1) := by decide +kernel
theorem d_Mo_part_36 : decode b_Mo_part 36 = .ok (.goto 57, 3) := by decide +kernel
theorem d_Mo_part_39 : decode b_Mo_part 39 = .ok (.iload_n 2, 1) := by decide +kernel
theorem d_Mo_part_40 : decode b_Mo_part 40 = .ok (.iconst 1, 1) := by decide +kernel
theorem d_Mo_part_41 : decode b_Mo_part 41 = .ok (.if_icmp .ne 12, 3) := by decide +kernel
theorem d_Mo_part_44 : decode b_Mo_part 44 = .ok (.aload_n 0, 1) := by decide +kernel
theorem d_Mo_part_45 : decode b_Mo_part 45 = .ok (.getfield 31, 3) := by decide +kernel
theorem d_Mo_part_48 : decode b_Mo_part 48 = .ok (.iload_n 1, 1) := by decide +kernel
theorem d_Mo_part_49 : decode b_Mo_part 49 = .ok (.iaload, 1) := by decide +kernel
theorem d_Mo_part_50 : decode b_Mo_part 50 = .ok (.goto 43, 3) := by decide +kernel
theorem d_Mo_part_53 : decode b_Mo_part 53 = .ok (.iload_n 2, 1) := by decide +kernel
theorem d_Mo_part_54 : decode b_Mo_part 54 = .ok (.iconst 2, 1) := by decide +kernel
theorem d_Mo_part_55 : decode b_Mo_part 55 = .ok (.if_icmp .ne 12, 3) := by decide +kernel
theorem d_Mo_part_58 : decode b_Mo_part 58 = .ok (.aload_n 0, 1) := by decide +kernel
theorem d_Mo_part_59 : decode b_Mo_part 59 = .ok (.getfield 34, 3) := by decide +kernel
theorem d_Mo_part_62 : decode b_Mo_part 62 = .ok (.iload_n 1, 1) := by decide +kernel
theorem d_Mo_part_63 : decode b_Mo_part 63 = .ok (.iaload, 1) := by decide +kernel
theorem d_Mo_part_64 : decode b_Mo_part 64 = .ok (.goto 29, 3) := by decide +kernel
theorem d_Mo_part_67 : decode b_Mo_part 67 = .ok (.iload_n 2, 1) := by decide +kernel
theorem d_Mo_part_68 : decode b_Mo_part 68 = .ok (.iconst 3, 1) := by decide +kernel
theorem d_Mo_part_69 : decode b_Mo_part 69 = .ok (.if_icmp .ne 12, 3) := by decide +kernel
theorem d_Mo_part_72 : decode b_Mo_part 72 = .ok (.aload_n 0, 1) := by decide +kernel
theorem d_Mo_part_73 : decode b_Mo_part 73 = .ok (.getfield 37, 3) := by decide +kernel
theorem d_Mo_part_76 : decode b_Mo_part 76 = .ok (.iload_n 1, 1) := by decide +kernel
theorem d_Mo_part_77 : decode b_Mo_part 77 = .ok (.iaload, 1) := by decide +kernel
theorem d_Mo_part_78 : decode b_Mo_part 78 = .ok (.goto 15, 3) := by decide +kernel
theorem d_Mo_part_81 : decode b_Mo_part 81 = .ok (.aload_n 0, 1) := by decide +kernel
theorem d_Mo_part_82 : decode b_Mo_part 82 = .ok (.getfield 40, 3) := by decide +kernel
theorem d_Mo_part_85 : decode b_Mo_part 85 = .ok (.iconst 2, 1) := by decide +kernel
theorem d_Mo_part_86 : decode b_Mo_part 86 = .ok (.iload_n 1, 1) := by decide +kernel
theorem d_Mo_part_87 : decode b_Mo_part 87 = .ok (.imul, 1) := by decide +kernel
theorem d_Mo_part_88 : decode b_Mo_part 88 = .ok (.iload_n 2, 1) := by decide +kernel
theorem d_Mo_part_89 : decode b_Mo_part 89 = .ok (.iadd, 1) := by decide +kernel
theorem d_Mo_part_90 : decode b_Mo_part 90 = .ok (.iconst 4, 1) := by decide +kernel
theorem d_Mo_part_91 : decode b_Mo_part 91 = .ok (.isub, 1) := by decide +kernel
theorem d_Mo_part_92 : decode b_Mo_part 92 = .ok (.iaload, 1) := by decide +kernel
theorem d_Mo_part_93 : decode b_Mo_part 93 = .ok (.ireturn, 1) := by decide +kernel
theorem d_Mo_check_0 : decode b_Mo_check 0 = .ok (.aload_n 0, 1) := by decide +kernel
theorem d_Mo_check_1 : decode b_Mo_check 1 = .ok (.getfield 101, 3) := by decide +kernel
theorem d_Mo_check_4 : decode b_Mo_check 4 = .ok (.ifCond .ne 7, 3) := by decide +kernel
theorem d_Mo_check_7 : decode b_Mo_check 7 = .ok (.iconst (-1), 1) := by decide +kernel
theorem d_Mo_check_8 : decode b_Mo_check 8 = .ok (.goto 7, 3) := by decide +kernel
theorem d_Mo_check_11 : decode b_Mo_check 11 = .ok (.aload_n 0, 1) := by decide +kernel
theorem d_Mo_check_12 : decode b_Mo_check 12 = .ok (.getfield 119, 3) := by decide +kernel
theorem d_Mo_check_15 : decode b_Mo_check 15 = .ok (.ireturn, 1) := by decide +kernel
theorem d_Mo_fault_0 : decode b_Mo_fault 0 = .ok (.iload_n 2, 1) := by decide +kernel
theorem d_Mo_fault_1 : decode b_Mo_fault 1 = .ok (.ifCond .lt 8, 3) := by decide +kernel
theorem d_Mo_fault_4 : decode b_Mo_fault 4 = .ok (.iload_n 2, 1) := by decide +kernel
theorem d_Mo_fault_5 : decode b_Mo_fault 5 = .ok (.iconst 2, 1) := by decide +kernel
theorem d_Mo_fault_6 : decode b_Mo_fault 6 = .ok (.if_icmp .le 6, 3) := by decide +kernel
theorem d_Mo_fault_9 : decode b_Mo_fault 9 = .ok (.bipush (-12), 2) := by decide +kernel
theorem d_Mo_fault_11 : decode b_Mo_fault 11 = .ok (.ireturn, 1) := by decide +kernel
theorem d_Mo_fault_12 : decode b_Mo_fault 12 = .ok (.iload_n 1, 1) := by decide +kernel
theorem d_Mo_fault_13 : decode b_Mo_fault 13 = .ok (.ifCond .lt 18, 3) := by decide +kernel
theorem d_Mo_fault_16 : decode b_Mo_fault 16 = .ok (.iload_n 1, 1) := by decide +kernel
theorem d_Mo_fault_17 : decode b_Mo_fault 17 = .ok (.aload_n 0, 1) := by decide +kernel
theorem d_Mo_fault_18 : decode b_Mo_fault 18 = .ok (.getfield 119, 3) := by decide +kernel
theorem d_Mo_fault_21 : decode b_Mo_fault 21 = .ok (.if_icmp .ge 10, 3) := by decide +kernel
theorem d_Mo_fault_24 : decode b_Mo_fault 24 = .ok (.aload_n 0, 1) := by decide +kernel
theorem d_Mo_fault_25 : decode b_Mo_fault 25 = .ok (.getfield 101, 3) := by decide +kernel
theorem d_Mo_fault_28 : decode b_Mo_fault 28 = .ok (.ifCond .ne 5, 3) := by decide +kernel
theorem d_Mo_fault_31 : decode b_Mo_fault 31 = .ok (.iconst (-1), 1) := by decide +kernel
theorem d_Mo_fault_32 : decode b_Mo_fault 32 = .ok (.ireturn, 1) := by decide +kernel
theorem d_Mo_fault_33 : decode b_Mo_fault 33 = .ok (.iload_n 2, 1) := by decide +kernel
theorem d_Mo_fault_34 : decode b_Mo_fault 34 = .ok (.ifCond .ne 12, 3) := by decide +kernel
theorem d_Mo_fault_37 : decode b_Mo_fault 37 = .ok (.aload_n 0, 1) := by decide +kernel
theorem d_Mo_fault_38 : decode b_Mo_fault 38 = .ok (.getfield 47, 3) := by decide +kernel
theorem d_Mo_fault_41 : decode b_Mo_fault 41 = .ok (.iload_n 1, 1) := by decide +kernel
theorem d_Mo_fault_42 : decode b_Mo_fault 42 = .ok (.iaload, 1) := by decide +kernel
theorem d_Mo_fault_43 : decode b_Mo_fault 43 = .ok (.goto 23, 3) := by decide +kernel
theorem d_Mo_fault_46 : decode b_Mo_fault 46 = .ok (.iload_n 2, 1) := by decide +kernel
theorem d_Mo_fault_47 : decode b_Mo_fault 47 = .ok (.iconst 1, 1) := by decide +kernel
theorem d_Mo_fault_48 : decode b_Mo_fault 48 = .ok (.if_icmp .ne 12, 3) := by decide +kernel
theorem d_Mo_fault_51 : decode b_Mo_fault 51 = .ok (.aload_n 0, 1) := by decide +kernel
theorem d_Mo_fault_52 : decode b_Mo_fault 52 = .ok (.getfield 50, 3) := by decide +kernel
theorem d_Mo_fault_55 : decode b_Mo_fault 55 = .ok (.iload_n 1, 1) := by decide +kernel
theorem d_Mo_fault_56 : decode b_Mo_fault 56 = .ok (.iaload, 1) := by decide +kernel
theorem d_Mo_fault_57 : decode b_Mo_fault 57 = .ok (.goto 9, 3) := by decide +kernel
theorem d_Mo_fault_60 : decode b_Mo_fault 60 = .ok (.aload_n 0, 1) := by decide +kernel
theorem d_Mo_fault_61 : decode b_Mo_fault 61 = .ok (.getfield 53, 3) := by decide +kernel
theorem d_Mo_fault_64 : decode b_Mo_fault 64 = .ok (.iload_n 1, 1) := by decide +kernel
theorem d_Mo_fault_65 : decode b_Mo_fault 65 = .ok (.iaload, 1) := by decide +kernel
theorem d_Mo_fault_66 : decode b_Mo_fault 66 = .ok (.ireturn, 1) := by decide +kernel
theorem d_Mo_reach_0 : decode b_Mo_reach 0 = .ok (.aload_n 0, 1) := by decide +kernel
theorem d_Mo_reach_1 : decode b_Mo_reach 1 = .ok (.iload_n 1, 1) := by decide +kernel
theorem d_Mo_reach_2 : decode b_Mo_reach 2 = .ok (.invokevirtual 110, 3) := by decide +kernel
theorem d_Mo_reach_5 : decode b_Mo_reach 5 = .ok (.istore_n 2, 1) := by decide +kernel
theorem d_Mo_reach_6 : decode b_Mo_reach 6 = .ok (.iload_n 2, 1) := by decide +kernel
theorem d_Mo_reach_7 : decode b_Mo_reach 7 = .ok (.iconst (-1), 1) := by decide +kernel
theorem d_Mo_reach_8 : decode b_Mo_reach 8 = .ok (.if_icmp .ne 6, 3) := by decide +kernel
theorem d_Mo_reach_11 : decode b_Mo_reach 11 = .ok (.bipush (-11), 2) := by decide +kernel
theorem d_Mo_reach_13 : decode b_Mo_reach 13 = .ok (.ireturn, 1) := by decide +kernel
theorem d_Mo_reach_14 : decode b_Mo_reach 14 = .ok (.aload_n 0, 1) := by decide +kernel
theorem d_Mo_reach_15 : decode b_Mo_reach 15 = .ok (.getfield 28, 3) := by decide +kernel
theorem d_Mo_reach_18 : decode b_Mo_reach 18 = .ok (.iload_n 2, 1) := by decide +kernel
theorem d_Mo_reach_19 : decode b_Mo_reach 19 = .ok (.iaload, 1) := by decide +kernel
theorem d_Mo_reach_20 : decode b_Mo_reach 20 = .ok (.iconst 4, 1) := by decide +kernel
theorem d_Mo_reach_21 : decode b_Mo_reach 21 = .ok (.if_icmp .eq 8, 3) := by decide +kernel
theorem d_Mo_reach_24 : decode b_Mo_reach 24 = .ok (.bipush (-13), 2) := by decide +kernel
theorem d_Mo_reach_26 : decode b_Mo_reach 26 = .ok (.goto 17, 3) := by decide +kernel
theorem d_Mo_reach_29 : decode b_Mo_reach 29 = .ok (.aload_n 0, 1) := by decide +kernel
theorem d_Mo_reach_30 : decode b_Mo_reach 30 = .ok (.iload_n 2, 1) := by decide +kernel
theorem d_Mo_reach_31 : decode b_Mo_reach 31 = .ok (.invokevirtual 116, 3) := by decide +kernel
theorem d_Mo_reach_34 : decode b_Mo_reach 34 = .ok (.iconst (-1), 1) := by decide +kernel
theorem d_Mo_reach_35 : decode b_Mo_reach 35 = .ok (.if_icmp .eq 7, 3) := by decide +kernel
theorem d_Mo_reach_38 : decode b_Mo_reach 38 = .ok (.iconst 1, 1) := by decide +kernel
theorem d_Mo_reach_39 : decode b_Mo_reach 39 = .ok (.goto 4, 3) := by decide +kernel
theorem d_Mo_reach_42 : decode b_Mo_reach 42 = .ok (.iconst 0, 1) := by decide +kernel
theorem d_Mo_reach_43 : decode b_Mo_reach 43 = .ok (.ireturn, 1) := by decide +kernel
theorem d_Mo_through_0 : decode b_Mo_through 0 = .ok (.lconst 0, 1) := by decide +kernel
theorem d_Mo_through_1 : decode b_Mo_through 1 = .ok (.lstore_n 2, 1) := by decide +kernel
theorem d_Mo_through_2 : decode b_Mo_through 2 = .ok (.aload_n 0, 1) := by decide +kernel
theorem d_Mo_through_3 : decode b_Mo_through 3 = .ok (.getfield 28, 3) := by decide +kernel
theorem d_Mo_through_6 : decode b_Mo_through 6 = .ok (.iload_n 1, 1) := by decide +kernel
theorem d_Mo_through_7 : decode b_Mo_through 7 = .ok (.iaload, 1) := by decide +kernel
theorem d_Mo_through_8 : decode b_Mo_through 8 = .ok (.iconst 1, 1) := by decide +kernel
theorem d_Mo_through_9 : decode b_Mo_through 9 = .ok (.if_icmp .ne 33, 3) := by decide +kernel
theorem d_Mo_through_12 : decode b_Mo_through 12 = .ok (.ldc2_w 126, 3) := by decide +kernel
theorem d_Mo_through_15 : decode b_Mo_through 15 = .ok (.aload_n 0, 1) := by decide +kernel
theorem d_Mo_through_16 : decode b_Mo_through 16 = .ok (.getfield 34, 3) := by decide +kernel
theorem d_Mo_through_19 : decode b_Mo_through 19 = .ok (.iload_n 1, 1) := by decide +kernel
theorem d_Mo_through_20 : decode b_Mo_through 20 = .ok (.iaload, 1) := by decide +kernel
theorem d_Mo_through_21 : decode b_Mo_through 21 = .ok (.i2l, 1) := by decide +kernel
theorem d_Mo_through_22 : decode b_Mo_through 22 = .ok (.lmul, 1) := by decide +kernel
theorem d_Mo_through_23 : decode b_Mo_through 23 = .ok (.aload_n 0, 1) := by decide +kernel
theorem d_Mo_through_24 : decode b_Mo_through 24 = .ok (.getfield 37, 3) := by decide +kernel
theorem d_Mo_through_27 : decode b_Mo_through 27 = .ok (.iload_n 1, 1) := by decide +kernel
theorem d_Mo_through_28 : decode b_Mo_through 28 = .ok (.iaload, 1) := by decide +kernel
theorem d_Mo_through_29 : decode b_Mo_through 29 = .ok (.i2l, 1) := by decide +kernel
theorem d_Mo_through_30 : decode b_Mo_through 30 = .ok (.ladd, 1) := by decide +kernel
theorem d_Mo_through_31 : decode b_Mo_through 31 = .ok (.lconst 1, 1) := by decide +kernel
theorem d_Mo_through_32 : decode b_Mo_through 32 = .ok (.lsub, 1) := by decide +kernel
theorem d_Mo_through_33 : decode b_Mo_through 33 = .ok (.aload_n 0, 1) := by decide +kernel
theorem d_Mo_through_34 : decode b_Mo_through 34 = .ok (.getfield 37, 3) := by decide +kernel
theorem d_Mo_through_37 : decode b_Mo_through 37 = .ok (.iload_n 1, 1) := by decide +kernel
theorem d_Mo_through_38 : decode b_Mo_through 38 = .ok (.iaload, 1) := by decide +kernel
theorem d_Mo_through_39 : decode b_Mo_through 39 = .ok (.i2l, 1) := by decide +kernel
theorem d_Mo_through_40 : decode b_Mo_through 40 = .ok (.ldiv, 1) := by decide +kernel
theorem d_Mo_through_41 : decode b_Mo_through 41 = .ok (.lstore_n 2, 1) := by decide +kernel
theorem d_Mo_through_42 : decode b_Mo_through 42 = .ok (.aload_n 0, 1) := by decide +kernel
theorem d_Mo_through_43 : decode b_Mo_through 43 = .ok (.getfield 28, 3) := by decide +kernel
theorem d_Mo_through_46 : decode b_Mo_through 46 = .ok (.iload_n 1, 1) := by decide +kernel
theorem d_Mo_through_47 : decode b_Mo_through 47 = .ok (.iaload, 1) := by decide +kernel
theorem d_Mo_through_48 : decode b_Mo_through 48 = .ok (.iconst 2, 1) := by decide +kernel
theorem d_Mo_through_49 : decode b_Mo_through 49 = .ok (.if_icmp .ne 13, 3) := by decide +kernel
theorem d_Mo_through_52 : decode b_Mo_through 52 = .ok (.aload_n 0, 1) := by decide +kernel
theorem d_Mo_through_53 : decode b_Mo_through 53 = .ok (.getfield 34, 3) := by decide +kernel
theorem d_Mo_through_56 : decode b_Mo_through 56 = .ok (.iload_n 1, 1) := by decide +kernel
theorem d_Mo_through_57 : decode b_Mo_through 57 = .ok (.iaload, 1) := by decide +kernel
theorem d_Mo_through_58 : decode b_Mo_through 58 = .ok (.i2l, 1) := by decide +kernel
theorem d_Mo_through_59 : decode b_Mo_through 59 = .ok (.goto 4, 3) := by decide +kernel
theorem d_Mo_through_62 : decode b_Mo_through 62 = .ok (.lload_n 2, 1) := by decide +kernel
theorem d_Mo_through_63 : decode b_Mo_through 63 = .ok (.lreturn, 1) := by decide +kernel
theorem d_Mo_time_0 : decode b_Mo_time 0 = .ok (.aload_n 0, 1) := by decide +kernel
theorem d_Mo_time_1 : decode b_Mo_time 1 = .ok (.iload_n 1, 1) := by decide +kernel
theorem d_Mo_time_2 : decode b_Mo_time 2 = .ok (.invokevirtual 110, 3) := by decide +kernel
theorem d_Mo_time_5 : decode b_Mo_time 5 = .ok (.istore_n 3, 1) := by decide +kernel
theorem d_Mo_time_6 : decode b_Mo_time 6 = .ok (.aload_n 0, 1) := by decide +kernel
theorem d_Mo_time_7 : decode b_Mo_time 7 = .ok (.iload_n 2, 1) := by decide +kernel
theorem d_Mo_time_8 : decode b_Mo_time 8 = .ok (.invokevirtual 110, 3) := by decide +kernel
theorem d_Mo_time_11 : decode b_Mo_time 11 = .ok (.istore 4, 2) := by decide +kernel
theorem d_Mo_time_13 : decode b_Mo_time 13 = .ok (.iload_n 3, 1) := by decide +kernel
theorem d_Mo_time_14 : decode b_Mo_time 14 = .ok (.iconst (-1), 1) := by decide +kernel
theorem d_Mo_time_15 : decode b_Mo_time 15 = .ok (.if_icmp .eq 9, 3) := by decide +kernel
theorem d_Mo_time_18 : decode b_Mo_time 18 = .ok (.iload 4, 2) := by decide +kernel
theorem d_Mo_time_20 : decode b_Mo_time 20 = .ok (.iconst (-1), 1) := by decide +kernel
theorem d_Mo_time_21 : decode b_Mo_time 21 = .ok (.if_icmp .ne 7, 3) := by decide +kernel
theorem d_Mo_time_24 : decode b_Mo_time 24 = .ok (.ldc2_w 128, 3) := by decide +kernel
theorem d_Mo_time_27 : decode b_Mo_time 27 = .ok (.lreturn, 1) := by decide +kernel
theorem d_Mo_time_28 : decode b_Mo_time 28 = .ok (.iconst 0, 1) := by decide +kernel
theorem d_Mo_time_29 : decode b_Mo_time 29 = .ok (.istore 5, 2) := by decide +kernel
theorem d_Mo_time_31 : decode b_Mo_time 31 = .ok (.iload 5, 2) := by decide +kernel
theorem d_Mo_time_33 : decode b_Mo_time 33 = .ok (.aload_n 0, 1) := by decide +kernel
theorem d_Mo_time_34 : decode b_Mo_time 34 = .ok (.getfield 101, 3) := by decide +kernel
theorem d_Mo_time_37 : decode b_Mo_time 37 = .ok (.if_icmp .ge 29, 3) := by decide +kernel
theorem d_Mo_time_40 : decode b_Mo_time 40 = .ok (.aload_n 0, 1) := by decide +kernel
theorem d_Mo_time_41 : decode b_Mo_time 41 = .ok (.getfield 56, 3) := by decide +kernel
theorem d_Mo_time_44 : decode b_Mo_time 44 = .ok (.iload 5, 2) := by decide +kernel
theorem d_Mo_time_46 : decode b_Mo_time 46 = .ok (.iload 5, 2) := by decide +kernel
theorem d_Mo_time_48 : decode b_Mo_time 48 = .ok (.iload_n 3, 1) := by decide +kernel
theorem d_Mo_time_49 : decode b_Mo_time 49 = .ok (.if_icmp .ne 7, 3) := by decide +kernel
theorem d_Mo_time_52 : decode b_Mo_time 52 = .ok (.lconst 0, 1) := by decide +kernel
theorem d_Mo_time_53 : decode b_Mo_time 53 = .ok (.goto 6, 3) := by decide +kernel
theorem d_Mo_time_56 : decode b_Mo_time 56 = .ok (.ldc2_w 130, 3) := by decide +kernel
theorem d_Mo_time_59 : decode b_Mo_time 59 = .ok (.lastore, 1) := by decide +kernel
theorem d_Mo_time_60 : decode b_Mo_time 60 = .ok (.iinc 5 1, 3) := by decide +kernel
theorem d_Mo_time_63 : decode b_Mo_time 63 = .ok (.goto (-32), 3) := by decide +kernel
theorem d_Mo_time_66 : decode b_Mo_time 66 = .ok (.iconst 0, 1) := by decide +kernel
theorem d_Mo_time_67 : decode b_Mo_time 67 = .ok (.istore 5, 2) := by decide +kernel
theorem d_Mo_time_69 : decode b_Mo_time 69 = .ok (.iload 5, 2) := by decide +kernel
theorem d_Mo_time_71 : decode b_Mo_time 71 = .ok (.aload_n 0, 1) := by decide +kernel
theorem d_Mo_time_72 : decode b_Mo_time 72 = .ok (.getfield 101, 3) := by decide +kernel
theorem d_Mo_time_75 : decode b_Mo_time 75 = .ok (.if_icmp .ge 118, 3) := by decide +kernel
theorem d_Mo_time_78 : decode b_Mo_time 78 = .ok (.iconst 0, 1) := by decide +kernel
theorem d_Mo_time_79 : decode b_Mo_time 79 = .ok (.istore 6, 2) := by decide +kernel
theorem d_Mo_time_81 : decode b_Mo_time 81 = .ok (.iload 6, 2) := by decide +kernel
theorem d_Mo_time_83 : decode b_Mo_time 83 = .ok (.aload_n 0, 1) := by decide +kernel
theorem d_Mo_time_84 : decode b_Mo_time 84 = .ok (.getfield 101, 3) := by decide +kernel
theorem d_Mo_time_87 : decode b_Mo_time 87 = .ok (.if_icmp .ge 100, 3) := by decide +kernel
theorem d_Mo_time_90 : decode b_Mo_time 90 = .ok (.iconst 0, 1) := by decide +kernel
theorem d_Mo_time_91 : decode b_Mo_time 91 = .ok (.istore 7, 2) := by decide +kernel
theorem d_Mo_time_93 : decode b_Mo_time 93 = .ok (.iload 7, 2) := by decide +kernel
theorem d_Mo_time_95 : decode b_Mo_time 95 = .ok (.iconst 2, 1) := by decide +kernel
theorem d_Mo_time_96 : decode b_Mo_time 96 = .ok (.if_icmp .ge 85, 3) := by decide +kernel
theorem d_Mo_time_99 : decode b_Mo_time 99 = .ok (.aload_n 0, 1) := by decide +kernel
theorem d_Mo_time_100 : decode b_Mo_time 100 = .ok (.iload 6, 2) := by decide +kernel
theorem d_Mo_time_102 : decode b_Mo_time 102 = .ok (.iload 7, 2) := by decide +kernel
theorem d_Mo_time_104 : decode b_Mo_time 104 = .ok (.invokevirtual 113, 3) := by decide +kernel
theorem d_Mo_time_107 : decode b_Mo_time 107 = .ok (.istore 8, 2) := by decide +kernel
theorem d_Mo_time_109 : decode b_Mo_time 109 = .ok (.iload 8, 2) := by decide +kernel
theorem d_Mo_time_111 : decode b_Mo_time 111 = .ok (.iconst (-1), 1) := by decide +kernel
theorem d_Mo_time_112 : decode b_Mo_time 112 = .ok (.if_icmp .eq 63, 3) := by decide +kernel
theorem d_Mo_time_115 : decode b_Mo_time 115 = .ok (.aload_n 0, 1) := by decide +kernel
theorem d_Mo_time_116 : decode b_Mo_time 116 = .ok (.getfield 56, 3) := by decide +kernel
theorem d_Mo_time_119 : decode b_Mo_time 119 = .ok (.iload 6, 2) := by decide +kernel
theorem d_Mo_time_121 : decode b_Mo_time 121 = .ok (.laload, 1) := by decide +kernel
theorem d_Mo_time_122 : decode b_Mo_time 122 = .ok (.ldc2_w 130, 3) := by decide +kernel
theorem d_Mo_time_125 : decode b_Mo_time 125 = .ok (.lcmp, 1) := by decide +kernel
theorem d_Mo_time_126 : decode b_Mo_time 126 = .ok (.ifCond .ge 49, 3) := by decide +kernel
theorem d_Mo_time_129 : decode b_Mo_time 129 = .ok (.aload_n 0, 1) := by decide +kernel
theorem d_Mo_time_130 : decode b_Mo_time 130 = .ok (.getfield 56, 3) := by decide +kernel
theorem d_Mo_time_133 : decode b_Mo_time 133 = .ok (.iload 6, 2) := by decide +kernel
theorem d_Mo_time_135 : decode b_Mo_time 135 = .ok (.laload, 1) := by decide +kernel
theorem d_Mo_time_136 : decode b_Mo_time 136 = .ok (.aload_n 0, 1) := by decide +kernel
theorem d_Mo_time_137 : decode b_Mo_time 137 = .ok (.iload 6, 2) := by decide +kernel
theorem d_Mo_time_139 : decode b_Mo_time 139 = .ok (.invokevirtual 132, 3) := by decide +kernel
theorem d_Mo_time_142 : decode b_Mo_time 142 = .ok (.ladd, 1) := by decide +kernel
theorem d_Mo_time_143 : decode b_Mo_time 143 = .ok (.aload_n 0, 1) := by decide +kernel
theorem d_Mo_time_144 : decode b_Mo_time 144 = .ok (.getfield 56, 3) := by decide +kernel
theorem d_Mo_time_147 : decode b_Mo_time 147 = .ok (.iload 8, 2) := by decide +kernel
theorem d_Mo_time_149 : decode b_Mo_time 149 = .ok (.laload, 1) := by decide +kernel
theorem d_Mo_time_150 : decode b_Mo_time 150 = .ok (.lcmp, 1) := by decide +kernel
theorem d_Mo_time_151 : decode b_Mo_time 151 = .ok (.ifCond .ge 24, 3) := by decide +kernel
theorem d_Mo_time_154 : decode b_Mo_time 154 = .ok (.aload_n 0, 1) := by decide +kernel
theorem d_Mo_time_155 : decode b_Mo_time 155 = .ok (.getfield 56, 3) := by decide +kernel
theorem d_Mo_time_158 : decode b_Mo_time 158 = .ok (.iload 8, 2) := by decide +kernel
theorem d_Mo_time_160 : decode b_Mo_time 160 = .ok (.aload_n 0, 1) := by decide +kernel
theorem d_Mo_time_161 : decode b_Mo_time 161 = .ok (.getfield 56, 3) := by decide +kernel
theorem d_Mo_time_164 : decode b_Mo_time 164 = .ok (.iload 6, 2) := by decide +kernel
theorem d_Mo_time_166 : decode b_Mo_time 166 = .ok (.laload, 1) := by decide +kernel
theorem d_Mo_time_167 : decode b_Mo_time 167 = .ok (.aload_n 0, 1) := by decide +kernel
theorem d_Mo_time_168 : decode b_Mo_time 168 = .ok (.iload 6, 2) := by decide +kernel
theorem d_Mo_time_170 : decode b_Mo_time 170 = .ok (.invokevirtual 132, 3) := by decide +kernel
theorem d_Mo_time_173 : decode b_Mo_time 173 = .ok (.ladd, 1) := by decide +kernel
theorem d_Mo_time_174 : decode b_Mo_time 174 = .ok (.lastore, 1) := by decide +kernel
theorem d_Mo_time_175 : decode b_Mo_time 175 = .ok (.iinc 7 1, 3) := by decide +kernel
theorem d_Mo_time_178 : decode b_Mo_time 178 = .ok (.goto (-85), 3) := by decide +kernel
theorem d_Mo_time_181 : decode b_Mo_time 181 = .ok (.iinc 6 1, 3) := by decide +kernel
theorem d_Mo_time_184 : decode b_Mo_time 184 = .ok (.goto (-103), 3) := by decide +kernel
theorem d_Mo_time_187 : decode b_Mo_time 187 = .ok (.iinc 5 1, 3) := by decide +kernel
theorem d_Mo_time_190 : decode b_Mo_time 190 = .ok (.goto (-121), 3) := by decide +kernel
theorem d_Mo_time_193 : decode b_Mo_time 193 = .ok (.aload_n 0, 1) := by decide +kernel
theorem d_Mo_time_194 : decode b_Mo_time 194 = .ok (.getfield 56, 3) := by decide +kernel
theorem d_Mo_time_197 : decode b_Mo_time 197 = .ok (.iload 4, 2) := by decide +kernel
theorem d_Mo_time_199 : decode b_Mo_time 199 = .ok (.laload, 1) := by decide +kernel
theorem d_Mo_time_200 : decode b_Mo_time 200 = .ok (.ldc2_w 130, 3) := by decide +kernel
theorem d_Mo_time_203 : decode b_Mo_time 203 = .ok (.lcmp, 1) := by decide +kernel
theorem d_Mo_time_204 : decode b_Mo_time 204 = .ok (.ifCond .ne 9, 3) := by decide +kernel
theorem d_Mo_time_207 : decode b_Mo_time 207 = .ok (.ldc2_w 136, 3) := by decide +kernel
theorem d_Mo_time_210 : decode b_Mo_time 210 = .ok (.goto 10, 3) := by decide +kernel
theorem d_Mo_time_213 : decode b_Mo_time 213 = .ok (.aload_n 0, 1) := by decide +kernel
theorem d_Mo_time_214 : decode b_Mo_time 214 = .ok (.getfield 56, 3) := by decide +kernel
theorem d_Mo_time_217 : decode b_Mo_time 217 = .ok (.iload 4, 2) := by decide +kernel
theorem d_Mo_time_219 : decode b_Mo_time 219 = .ok (.laload, 1) := by decide +kernel
theorem d_Mo_time_220 : decode b_Mo_time 220 = .ok (.lreturn, 1) := by decide +kernel
theorem d_Mo_gap_0 : decode b_Mo_gap 0 = .ok (.aload_n 0, 1) := by decide +kernel
theorem d_Mo_gap_1 : decode b_Mo_gap 1 = .ok (.iload_n 1, 1) := by decide +kernel
theorem d_Mo_gap_2 : decode b_Mo_gap 2 = .ok (.invokevirtual 110, 3) := by decide +kernel
theorem d_Mo_gap_5 : decode b_Mo_gap 5 = .ok (.istore_n 2, 1) := by decide +kernel
theorem d_Mo_gap_6 : decode b_Mo_gap 6 = .ok (.iload_n 2, 1) := by decide +kernel
theorem d_Mo_gap_7 : decode b_Mo_gap 7 = .ok (.iconst (-1), 1) := by decide +kernel
theorem d_Mo_gap_8 : decode b_Mo_gap 8 = .ok (.if_icmp .ne 8, 3) := by decide +kernel
theorem d_Mo_gap_11 : decode b_Mo_gap 11 = .ok (.bipush (-11), 2) := by decide +kernel
theorem d_Mo_gap_13 : decode b_Mo_gap 13 = .ok (.goto 8, 3) := by decide +kernel
theorem d_Mo_gap_16 : decode b_Mo_gap 16 = .ok (.aload_n 0, 1) := by decide +kernel
theorem d_Mo_gap_17 : decode b_Mo_gap 17 = .ok (.iload_n 2, 1) := by decide +kernel
theorem d_Mo_gap_18 : decode b_Mo_gap 18 = .ok (.invokevirtual 116, 3) := by decide +kernel
theorem d_Mo_gap_21 : decode b_Mo_gap 21 = .ok (.ireturn, 1) := by decide +kernel
theorem d_Mo_suffices_0 : decode b_Mo_suffices 0 = .ok (.aload_n 0, 1) := by decide +kernel
theorem d_Mo_suffices_1 : decode b_Mo_suffices 1 = .ok (.iload_n 1, 1) := by decide +kernel
theorem d_Mo_suffices_2 : decode b_Mo_suffices 2 = .ok (.invokevirtual 110, 3) := by decide +kernel
theorem d_Mo_suffices_5 : decode b_Mo_suffices 5 = .ok (.istore 4, 2) := by decide +kernel
theorem d_Mo_suffices_7 : decode b_Mo_suffices 7 = .ok (.iload 4, 2) := by decide +kernel
theorem d_Mo_suffices_9 : decode b_Mo_suffices 9 = .ok (.iconst (-1), 1) := by decide +kernel
theorem d_Mo_suffices_10 : decode b_Mo_suffices 10 = .ok (.if_icmp .eq 31, 3) := by decide +kernel
theorem d_Mo_suffices_13 : decode b_Mo_suffices 13 = .ok (.aload_n 0, 1) := by decide +kernel
theorem d_Mo_suffices_14 : decode b_Mo_suffices 14 = .ok (.getfield 28, 3) := by decide +kernel
theorem d_Mo_suffices_17 : decode b_Mo_suffices 17 = .ok (.iload 4, 2) := by decide +kernel
theorem d_Mo_suffices_19 : decode b_Mo_suffices 19 = .ok (.iaload, 1) := by decide +kernel
theorem d_Mo_suffices_20 : decode b_Mo_suffices 20 = .ok (.iconst 3, 1) := by decide +kernel
theorem d_Mo_suffices_21 : decode b_Mo_suffices 21 = .ok (.if_icmp .ne 20, 3) := by decide +kernel
theorem d_Mo_suffices_24 : decode b_Mo_suffices 24 = .ok (.aload_n 0, 1) := by decide +kernel
theorem d_Mo_suffices_25 : decode b_Mo_suffices 25 = .ok (.getfield 34, 3) := by decide +kernel
theorem d_Mo_suffices_28 : decode b_Mo_suffices 28 = .ok (.iload 4, 2) := by decide +kernel
theorem d_Mo_suffices_30 : decode b_Mo_suffices 30 = .ok (.iaload, 1) := by decide +kernel
theorem d_Mo_suffices_31 : decode b_Mo_suffices 31 = .ok (.i2l, 1) := by decide +kernel
theorem d_Mo_suffices_32 : decode b_Mo_suffices 32 = .ok (.lload_n 2, 1) := by decide +kernel
theorem d_Mo_suffices_33 : decode b_Mo_suffices 33 = .ok (.lcmp, 1) := by decide +kernel
theorem d_Mo_suffices_34 : decode b_Mo_suffices 34 = .ok (.ifCond .gt 7, 3) := by decide +kernel
theorem d_Mo_suffices_37 : decode b_Mo_suffices 37 = .ok (.iconst 1, 1) := by decide +kernel
theorem d_Mo_suffices_38 : decode b_Mo_suffices 38 = .ok (.goto 4, 3) := by decide +kernel
theorem d_Mo_suffices_41 : decode b_Mo_suffices 41 = .ok (.iconst 0, 1) := by decide +kernel
theorem d_Mo_suffices_42 : decode b_Mo_suffices 42 = .ok (.ireturn, 1) := by decide +kernel
theorem d_Mo_put_0 : decode b_Mo_put 0 = .ok (.aload_n 0, 1) := by decide +kernel
theorem d_Mo_put_1 : decode b_Mo_put 1 = .ok (.getfield 60, 3) := by decide +kernel
theorem d_Mo_put_4 : decode b_Mo_put 4 = .ok (.aload_n 0, 1) := by decide +kernel
theorem d_Mo_put_5 : decode b_Mo_put 5 = .ok (.getfield 138, 3) := by decide +kernel
theorem d_Mo_put_8 : decode b_Mo_put 8 = .ok (.iload_n 1, 1) := by decide +kernel
theorem d_Mo_put_9 : decode b_Mo_put 9 = .ok (.iastore, 1) := by decide +kernel
theorem d_Mo_put_10 : decode b_Mo_put 10 = .ok (.aload_n 0, 1) := by decide +kernel
theorem d_Mo_put_11 : decode b_Mo_put 11 = .ok (.dup, 1) := by decide +kernel
theorem d_Mo_put_12 : decode b_Mo_put 12 = .ok (.getfield 138, 3) := by decide +kernel
theorem d_Mo_put_15 : decode b_Mo_put 15 = .ok (.iconst 1, 1) := by decide +kernel
theorem d_Mo_put_16 : decode b_Mo_put 16 = .ok (.iadd, 1) := by decide +kernel
theorem d_Mo_put_17 : decode b_Mo_put 17 = .ok (.putfield 138, 3) := by decide +kernel
theorem d_Mo_put_20 : decode b_Mo_put 20 = .ok (.return_, 1) := by decide +kernel
theorem d_Mo_putNumber_0 : decode b_Mo_putNumber 0 = .ok (.iconst 1, 1) := by decide +kernel
theorem d_Mo_putNumber_1 : decode b_Mo_putNumber 1 = .ok (.istore_n 2, 1) := by decide +kernel
theorem d_Mo_putNumber_2 : decode b_Mo_putNumber 2 = .ok (.iload_n 1, 1) := by decide +kernel
theorem d_Mo_putNumber_3 : decode b_Mo_putNumber 3 = .ok (.iload_n 2, 1) := by decide +kernel
theorem d_Mo_putNumber_4 : decode b_Mo_putNumber 4 = .ok (.idiv, 1) := by decide +kernel
theorem d_Mo_putNumber_5 : decode b_Mo_putNumber 5 = .ok (.bipush 9, 2) := by decide +kernel
theorem d_Mo_putNumber_7 : decode b_Mo_putNumber 7 = .ok (.if_icmp .le 11, 3) := by decide +kernel
theorem d_Mo_putNumber_10 : decode b_Mo_putNumber 10 = .ok (.iload_n 2, 1) := by decide +kernel
theorem d_Mo_putNumber_11 : decode b_Mo_putNumber 11 = .ok (.bipush 10, 2) := by decide +kernel
theorem d_Mo_putNumber_13 : decode b_Mo_putNumber 13 = .ok (.imul, 1) := by decide +kernel
theorem d_Mo_putNumber_14 : decode b_Mo_putNumber 14 = .ok (.istore_n 2, 1) := by decide +kernel
theorem d_Mo_putNumber_15 : decode b_Mo_putNumber 15 = .ok (.goto (-13), 3) := by decide +kernel
theorem d_Mo_putNumber_18 : decode b_Mo_putNumber 18 = .ok (.iload_n 2, 1) := by decide +kernel
theorem d_Mo_putNumber_19 : decode b_Mo_putNumber 19 = .ok (.ifCond .le 24, 3) := by decide +kernel
theorem d_Mo_putNumber_22 : decode b_Mo_putNumber 22 = .ok (.aload_n 0, 1) := by decide +kernel
theorem d_Mo_putNumber_23 : decode b_Mo_putNumber 23 = .ok (.bipush 48, 2) := by decide +kernel
theorem d_Mo_putNumber_25 : decode b_Mo_putNumber 25 = .ok (.iload_n 1, 1) := by decide +kernel
theorem d_Mo_putNumber_26 : decode b_Mo_putNumber 26 = .ok (.iload_n 2, 1) := by decide +kernel
theorem d_Mo_putNumber_27 : decode b_Mo_putNumber 27 = .ok (.idiv, 1) := by decide +kernel
theorem d_Mo_putNumber_28 : decode b_Mo_putNumber 28 = .ok (.bipush 10, 2) := by decide +kernel
theorem d_Mo_putNumber_30 : decode b_Mo_putNumber 30 = .ok (.irem, 1) := by decide +kernel
theorem d_Mo_putNumber_31 : decode b_Mo_putNumber 31 = .ok (.iadd, 1) := by decide +kernel
theorem d_Mo_putNumber_32 : decode b_Mo_putNumber 32 = .ok (.invokevirtual 141, 3) := by decide +kernel
theorem d_Mo_putNumber_35 : decode b_Mo_putNumber 35 = .ok (.iload_n 2, 1) := by decide +kernel
theorem d_Mo_putNumber_36 : decode b_Mo_putNumber 36 = .ok (.bipush 10, 2) := by decide +kernel
theorem d_Mo_putNumber_38 : decode b_Mo_putNumber 38 = .ok (.idiv, 1) := by decide +kernel
theorem d_Mo_putNumber_39 : decode b_Mo_putNumber 39 = .ok (.istore_n 2, 1) := by decide +kernel
theorem d_Mo_putNumber_40 : decode b_Mo_putNumber 40 = .ok (.goto (-22), 3) := by decide +kernel
theorem d_Mo_putNumber_43 : decode b_Mo_putNumber 43 = .ok (.return_, 1) := by decide +kernel
theorem d_Mo_letterOf_0 : decode b_Mo_letterOf 0 = .ok (.iload_n 0, 1) := by decide +kernel
theorem d_Mo_letterOf_1 : decode b_Mo_letterOf 1 = .ok (.ifCond .ne 8, 3) := by decide +kernel
theorem d_Mo_letterOf_4 : decode b_Mo_letterOf 4 = .ok (.bipush 70, 2) := by decide +kernel
theorem d_Mo_letterOf_6 : decode b_Mo_letterOf 6 = .ok (.goto 35, 3) := by decide +kernel
theorem d_Mo_letterOf_9 : decode b_Mo_letterOf 9 = .ok (.iload_n 0, 1) := by decide +kernel
theorem d_Mo_letterOf_10 : decode b_Mo_letterOf 10 = .ok (.iconst 1, 1) := by decide +kernel
theorem d_Mo_letterOf_11 : decode b_Mo_letterOf 11 = .ok (.if_icmp .ne 8, 3) := by decide +kernel
theorem d_Mo_letterOf_14 : decode b_Mo_letterOf 14 = .ok (.bipush 66, 2) := by decide +kernel
theorem d_Mo_letterOf_16 : decode b_Mo_letterOf 16 = .ok (.goto 25, 3) := by decide +kernel
theorem d_Mo_letterOf_19 : decode b_Mo_letterOf 19 = .ok (.iload_n 0, 1) := by decide +kernel
theorem d_Mo_letterOf_20 : decode b_Mo_letterOf 20 = .ok (.iconst 2, 1) := by decide +kernel
theorem d_Mo_letterOf_21 : decode b_Mo_letterOf 21 = .ok (.if_icmp .ne 8, 3) := by decide +kernel
theorem d_Mo_letterOf_24 : decode b_Mo_letterOf 24 = .ok (.bipush 82, 2) := by decide +kernel
theorem d_Mo_letterOf_26 : decode b_Mo_letterOf 26 = .ok (.goto 15, 3) := by decide +kernel
theorem d_Mo_letterOf_29 : decode b_Mo_letterOf 29 = .ok (.iload_n 0, 1) := by decide +kernel
theorem d_Mo_letterOf_30 : decode b_Mo_letterOf 30 = .ok (.iconst 3, 1) := by decide +kernel
theorem d_Mo_letterOf_31 : decode b_Mo_letterOf 31 = .ok (.if_icmp .ne 8, 3) := by decide +kernel
theorem d_Mo_letterOf_34 : decode b_Mo_letterOf 34 = .ok (.bipush 71, 2) := by decide +kernel
theorem d_Mo_letterOf_36 : decode b_Mo_letterOf 36 = .ok (.goto 5, 3) := by decide +kernel
theorem d_Mo_letterOf_39 : decode b_Mo_letterOf 39 = .ok (.bipush 83, 2) := by decide +kernel
theorem d_Mo_letterOf_41 : decode b_Mo_letterOf 41 = .ok (.ireturn, 1) := by decide +kernel
theorem d_Mo_print_0 : decode b_Mo_print 0 = .ok (.aload_n 0, 1) := by decide +kernel
theorem d_Mo_print_1 : decode b_Mo_print 1 = .ok (.iconst 0, 1) := by decide +kernel
theorem d_Mo_print_2 : decode b_Mo_print 2 = .ok (.putfield 138, 3) := by decide +kernel
theorem d_Mo_print_5 : decode b_Mo_print 5 = .ok (.iconst 0, 1) := by decide +kernel
theorem d_Mo_print_6 : decode b_Mo_print 6 = .ok (.istore_n 1, 1) := by decide +kernel
theorem d_Mo_print_7 : decode b_Mo_print 7 = .ok (.iload_n 1, 1) := by decide +kernel
theorem d_Mo_print_8 : decode b_Mo_print 8 = .ok (.aload_n 0, 1) := by decide +kernel
theorem d_Mo_print_9 : decode b_Mo_print 9 = .ok (.getfield 101, 3) := by decide +kernel
theorem d_Mo_print_12 : decode b_Mo_print 12 = .ok (.if_icmp .ge 138, 3) := by decide +kernel
theorem d_Mo_print_15 : decode b_Mo_print 15 = .ok (.aload_n 0, 1) := by decide +kernel
theorem d_Mo_print_16 : decode b_Mo_print 16 = .ok (.aload_n 0, 1) := by decide +kernel
theorem d_Mo_print_17 : decode b_Mo_print 17 = .ok (.getfield 28, 3) := by decide +kernel
theorem d_Mo_print_20 : decode b_Mo_print 20 = .ok (.iload_n 1, 1) := by decide +kernel
theorem d_Mo_print_21 : decode b_Mo_print 21 = .ok (.iaload, 1) := by decide +kernel
theorem d_Mo_print_22 : decode b_Mo_print 22 = .ok (.invokestatic 144, 3) := by decide +kernel
theorem d_Mo_print_25 : decode b_Mo_print 25 = .ok (.invokevirtual 141, 3) := by decide +kernel
theorem d_Mo_print_28 : decode b_Mo_print 28 = .ok (.aload_n 0, 1) := by decide +kernel
theorem d_Mo_print_29 : decode b_Mo_print 29 = .ok (.aload_n 0, 1) := by decide +kernel
theorem d_Mo_print_30 : decode b_Mo_print 30 = .ok (.getfield 31, 3) := by decide +kernel
theorem d_Mo_print_33 : decode b_Mo_print 33 = .ok (.iload_n 1, 1) := by decide +kernel
theorem d_Mo_print_34 : decode b_Mo_print 34 = .ok (.iaload, 1) := by decide +kernel
theorem d_Mo_print_35 : decode b_Mo_print 35 = .ok (.invokevirtual 147, 3) := by decide +kernel
theorem d_Mo_print_38 : decode b_Mo_print 38 = .ok (.aload_n 0, 1) := by decide +kernel
theorem d_Mo_print_39 : decode b_Mo_print 39 = .ok (.bipush 61, 2) := by decide +kernel
theorem d_Mo_print_41 : decode b_Mo_print 41 = .ok (.invokevirtual 141, 3) := by decide +kernel
theorem d_Mo_print_44 : decode b_Mo_print 44 = .ok (.aload_n 0, 1) := by decide +kernel
theorem d_Mo_print_45 : decode b_Mo_print 45 = .ok (.aload_n 0, 1) := by decide +kernel
theorem d_Mo_print_46 : decode b_Mo_print 46 = .ok (.getfield 34, 3) := by decide +kernel
theorem d_Mo_print_49 : decode b_Mo_print 49 = .ok (.iload_n 1, 1) := by decide +kernel
theorem d_Mo_print_50 : decode b_Mo_print 50 = .ok (.iaload, 1) := by decide +kernel
theorem d_Mo_print_51 : decode b_Mo_print 51 = .ok (.invokevirtual 147, 3) := by decide +kernel
theorem d_Mo_print_54 : decode b_Mo_print 54 = .ok (.aload_n 0, 1) := by decide +kernel
theorem d_Mo_print_55 : decode b_Mo_print 55 = .ok (.getfield 28, 3) := by decide +kernel
theorem d_Mo_print_58 : decode b_Mo_print 58 = .ok (.iload_n 1, 1) := by decide +kernel
theorem d_Mo_print_59 : decode b_Mo_print 59 = .ok (.iaload, 1) := by decide +kernel
theorem d_Mo_print_60 : decode b_Mo_print 60 = .ok (.iconst 1, 1) := by decide +kernel
theorem d_Mo_print_61 : decode b_Mo_print 61 = .ok (.if_icmp .ne 19, 3) := by decide +kernel
theorem d_Mo_print_64 : decode b_Mo_print 64 = .ok (.aload_n 0, 1) := by decide +kernel
theorem d_Mo_print_65 : decode b_Mo_print 65 = .ok (.bipush 44, 2) := by decide +kernel
theorem d_Mo_print_67 : decode b_Mo_print 67 = .ok (.invokevirtual 141, 3) := by decide +kernel
theorem d_Mo_print_70 : decode b_Mo_print 70 = .ok (.aload_n 0, 1) := by decide +kernel
theorem d_Mo_print_71 : decode b_Mo_print 71 = .ok (.aload_n 0, 1) := by decide +kernel
theorem d_Mo_print_72 : decode b_Mo_print 72 = .ok (.getfield 37, 3) := by decide +kernel
theorem d_Mo_print_75 : decode b_Mo_print 75 = .ok (.iload_n 1, 1) := by decide +kernel
theorem d_Mo_print_76 : decode b_Mo_print 76 = .ok (.iaload, 1) := by decide +kernel
theorem d_Mo_print_77 : decode b_Mo_print 77 = .ok (.invokevirtual 147, 3) := by decide +kernel
theorem d_Mo_print_80 : decode b_Mo_print 80 = .ok (.aload_n 0, 1) := by decide +kernel
theorem d_Mo_print_81 : decode b_Mo_print 81 = .ok (.getfield 28, 3) := by decide +kernel
theorem d_Mo_print_84 : decode b_Mo_print 84 = .ok (.iload_n 1, 1) := by decide +kernel
theorem d_Mo_print_85 : decode b_Mo_print 85 = .ok (.iaload, 1) := by decide +kernel
theorem d_Mo_print_86 : decode b_Mo_print 86 = .ok (.iconst 4, 1) := by decide +kernel
theorem d_Mo_print_87 : decode b_Mo_print 87 = .ok (.if_icmp .ge 21, 3) := by decide +kernel
theorem d_Mo_print_90 : decode b_Mo_print 90 = .ok (.aload_n 0, 1) := by decide +kernel
theorem d_Mo_print_91 : decode b_Mo_print 91 = .ok (.bipush 62, 2) := by decide +kernel
theorem d_Mo_print_93 : decode b_Mo_print 93 = .ok (.invokevirtual 141, 3) := by decide +kernel
theorem d_Mo_print_96 : decode b_Mo_print 96 = .ok (.aload_n 0, 1) := by decide +kernel
theorem d_Mo_print_97 : decode b_Mo_print 97 = .ok (.aload_n 0, 1) := by decide +kernel
theorem d_Mo_print_98 : decode b_Mo_print 98 = .ok (.getfield 40, 3) := by decide +kernel
theorem d_Mo_print_101 : decode b_Mo_print 101 = .ok (.iconst 2, 1) := by decide +kernel
theorem d_Mo_print_102 : decode b_Mo_print 102 = .ok (.iload_n 1, 1) := by decide +kernel
theorem d_Mo_print_103 : decode b_Mo_print 103 = .ok (.imul, 1) := by decide +kernel
theorem d_Mo_print_104 : decode b_Mo_print 104 = .ok (.iaload, 1) := by decide +kernel
theorem d_Mo_print_105 : decode b_Mo_print 105 = .ok (.invokevirtual 147, 3) := by decide +kernel
theorem d_Mo_print_108 : decode b_Mo_print 108 = .ok (.aload_n 0, 1) := by decide +kernel
theorem d_Mo_print_109 : decode b_Mo_print 109 = .ok (.getfield 28, 3) := by decide +kernel
theorem d_Mo_print_112 : decode b_Mo_print 112 = .ok (.iload_n 1, 1) := by decide +kernel
theorem d_Mo_print_113 : decode b_Mo_print 113 = .ok (.iaload, 1) := by decide +kernel
theorem d_Mo_print_114 : decode b_Mo_print 114 = .ok (.iconst 3, 1) := by decide +kernel
theorem d_Mo_print_115 : decode b_Mo_print 115 = .ok (.if_icmp .ne 23, 3) := by decide +kernel
theorem d_Mo_print_118 : decode b_Mo_print 118 = .ok (.aload_n 0, 1) := by decide +kernel
theorem d_Mo_print_119 : decode b_Mo_print 119 = .ok (.bipush 44, 2) := by decide +kernel
theorem d_Mo_print_121 : decode b_Mo_print 121 = .ok (.invokevirtual 141, 3) := by decide +kernel
theorem d_Mo_print_124 : decode b_Mo_print 124 = .ok (.aload_n 0, 1) := by decide +kernel
theorem d_Mo_print_125 : decode b_Mo_print 125 = .ok (.aload_n 0, 1) := by decide +kernel
theorem d_Mo_print_126 : decode b_Mo_print 126 = .ok (.getfield 40, 3) := by decide +kernel
theorem d_Mo_print_129 : decode b_Mo_print 129 = .ok (.iconst 2, 1) := by decide +kernel
theorem d_Mo_print_130 : decode b_Mo_print 130 = .ok (.iload_n 1, 1) := by decide +kernel
theorem d_Mo_print_131 : decode b_Mo_print 131 = .ok (.imul, 1) := by decide +kernel
theorem d_Mo_print_132 : decode b_Mo_print 132 = .ok (.iconst 1, 1) := by decide +kernel
theorem d_Mo_print_133 : decode b_Mo_print 133 = .ok (.iadd, 1) := by decide +kernel
theorem d_Mo_print_134 : decode b_Mo_print 134 = .ok (.iaload, 1) := by decide +kernel
theorem d_Mo_print_135 : decode b_Mo_print 135 = .ok (.invokevirtual 147, 3) := by decide +kernel
theorem d_Mo_print_138 : decode b_Mo_print 138 = .ok (.aload_n 0, 1) := by decide +kernel
theorem d_Mo_print_139 : decode b_Mo_print 139 = .ok (.bipush 59, 2) := by decide +kernel
theorem d_Mo_print_141 : decode b_Mo_print 141 = .ok (.invokevirtual 141, 3) := by decide +kernel
theorem d_Mo_print_144 : decode b_Mo_print 144 = .ok (.iinc 1 1, 3) := by decide +kernel
theorem d_Mo_print_147 : decode b_Mo_print 147 = .ok (.goto (-140), 3) := by decide +kernel
theorem d_Mo_print_150 : decode b_Mo_print 150 = .ok (.aload_n 0, 1) := by decide +kernel
theorem d_Mo_print_151 : decode b_Mo_print 151 = .ok (.getfield 138, 3) := by decide +kernel
theorem d_Mo_print_154 : decode b_Mo_print 154 = .ok (.ireturn, 1) := by decide +kernel
theorem d_Mo_at_0 : decode b_Mo_at 0 = .ok (.iload_n 1, 1) := by decide +kernel
theorem d_Mo_at_1 : decode b_Mo_at 1 = .ok (.ifCond .lt 20, 3) := by decide +kernel
theorem d_Mo_at_4 : decode b_Mo_at 4 = .ok (.iload_n 1, 1) := by decide +kernel
theorem d_Mo_at_5 : decode b_Mo_at 5 = .ok (.aload_n 0, 1) := by decide +kernel
theorem d_Mo_at_6 : decode b_Mo_at 6 = .ok (.getfield 138, 3) := by decide +kernel
theorem d_Mo_at_9 : decode b_Mo_at 9 = .ok (.if_icmp .ge 12, 3) := by decide +kernel
theorem d_Mo_at_12 : decode b_Mo_at 12 = .ok (.aload_n 0, 1) := by decide +kernel
theorem d_Mo_at_13 : decode b_Mo_at 13 = .ok (.getfield 60, 3) := by decide +kernel
theorem d_Mo_at_16 : decode b_Mo_at 16 = .ok (.iload_n 1, 1) := by decide +kernel
theorem d_Mo_at_17 : decode b_Mo_at 17 = .ok (.iaload, 1) := by decide +kernel
theorem d_Mo_at_18 : decode b_Mo_at 18 = .ok (.goto 4, 3) := by decide +kernel
theorem d_Mo_at_21 : decode b_Mo_at 21 = .ok (.iconst (-1), 1) := by decide +kernel
theorem d_Mo_at_22 : decode b_Mo_at 22 = .ok (.ireturn, 1) := by decide +kernel
